def fX11_crumble_c31 : Nat → Int32 → Int32 → Int32 → xSt → Option (xO × xSt)
  | 0 => fun _ _ _ _ => none
  | n + 1 => fun a1 a2 a3 σ => (if 4 ≤ a3 then (xr σ 3 8 7 fun v9 => (xs σ 3 8 7 (v9 + a2) fun σ10 => some ((.inl a2 : xO), σ10))) else (xs σ 28 24 ((a1 * 4) + a3) 0 fun σ11 => (xl (a3 + 1) fun v12 => fX11_crumble_c31 n a1 a2 v12 σ11)))
theorem fX11_crumble_c31_s (n : Nat) (a1 : Int32) (a2 : Int32) (a3 : Int32) (σ : xSt) : fX11_crumble_c31 (n + 1) a1 a2 a3 σ = ((if 4 ≤ a3 then (xr σ 3 8 7 fun v9 => (xs σ 3 8 7 (v9 + a2) fun σ10 => some ((.inl a2 : xO), σ10))) else (xs σ 28 24 ((a1 * 4) + a3) 0 fun σ11 => (xl (a3 + 1) fun v12 => fX11_crumble_c31 n a1 a2 v12 σ11))) : Option (xO × xSt)) := rfl
def fX11_crumble (p0 : Int32) (σ : xSt) : Option (xO × xSt) := (xct (fX11_needRecipe p0 σ) fun r1 σ2 => (xc (fX11_remember σ2) fun σ4 => (xc2 (fX0_from p0 1 σ4) fun r5 σ6 => (xr σ6 5 6 p0 fun v7 => (xl (r5 * v7) fun v8 => fX11_crumble_c31 xFU p0 v8 1 σ6)))))
abbrev rmX11_crumble : Room := { frames := 8, cells := 1, slots := 6, locals := 139 }
set_option maxRecDepth 100000 in
set_option maxHeartbeats 4000000 in
theorem mX11_crumble {l : Launch} (hl0 : l.stackTraces = false) {E : xE} (hE : E.sh = shX) (p0 : Int32) (σ : xSt) (o1 : xO) (o2 : xSt) (hf : fX11_crumble p0 σ = some (o1, o2)) : xMt l yX11_crumble wsX11_crumble rmX11_crumble E [.ref (E.a 0), .int p0] σ o1 o2 1 := by
  unfold fX11_crumble at hf
  refine xMt_of (cc := cX11_crumble) (maxL := 4) (ret := (some .int)) (by decide) rfl (Nat.le_of_ble_eq_true rfl) ?_
  intro p e s m args below meth c A ls ⟨hx, hb, hr, hml, hown, hts, hlk⟩ hA hG hw hl hex
  have hown : s.vm.findClass RX11 = some m.cls := hown
  have hl : lv_has ls 4 [(0, .ref (E.a 0)), (1, .int p0)] := hl
  have hk55 := hts (.fieldLink RX11 55 "OvenRound" "breads" "LOvenRound$Breads;") (by decide +kernel)
  have hiX11 : ∀ w ∈ wsX110, w ∈ wsX11_crumble := by decide +kernel
  have hk31 := hts (.fieldLink RX11 31 "OvenRound" "recipes" "LOvenRound$Recipes;") (by decide +kernel)
  have hk124 := hts (.fieldLink RX11 124 "OvenRound$Recipes" "piece" "[I") (by decide +kernel)
  have hiX8 : ∀ w ∈ wsX80, w ∈ wsX11_crumble := by decide +kernel
  have hk24 := hts (.fieldLink RX11 24 "OvenRound" "store" "LOvenRound$Store;") (by decide +kernel)
  have hk107 := hts (.fieldLink RX11 107 "OvenRound$Store" "grams" "[I") (by decide +kernel)
  have hiX10 : ∀ w ∈ wsX100, w ∈ wsX11_crumble := by decide +kernel
  have hk258 := hts (.fieldLink RX11 258 "OvenRound$Breads" "pieces" "[I") (by decide +kernel)
  have hiX0 : ∀ w ∈ wsX00, w ∈ wsX11_crumble := by decide +kernel
  have h31 : ∀ (n : Nat) (a1 : Int32) (a2 : Int32) (a3 : Int32) (σ : xSt) (H : Heap) (locs : List Loc) (ls : Array Slot), xw E A s.heap s σ H locs → lv_has ls 4 [(0, .ref (E.a 0)), (1, .int a1), (2, .int a2), (3, .int a3)] → fX11_crumble_c31 n a1 a2 a3 σ = some (o1, o2) → W p l e rmX11_crumble s m args below meth c H locs 1 6 (vx_MQ below (xQt E A o1 o2) (xXt E A o1 o2) args s 1 6 A) (F0 m 31 ls []) := by
    intro n31
    induction n31 with
    | zero => intro a1 a2 a3 σ H locs ls hw hl hf; exact nomatch hf
    | succ n31 ih31 =>
      intro a1 a2 a3 σ H locs ls hw hl hf
      rw [fX11_crumble_c31_s] at hf
      refine lv_iload_n hx hb dX11_crumble_31 rfl (lv_at hl 3 rfl) ?_
      refine lv_iconst (v := 4) hx hb dX11_crumble_32 (by decide) ?_
      refine lv_icmp_ge (tgt := 56) hx hb dX11_crumble_33 (by decide) (fun c33 => ?_) (fun c33 => ?_)
      · replace hf := xif_pos c33 hf
        refine lv_aload_n hx hb dX11_crumble_56 rfl (lv_at hl 0 rfl) ?_
        refine x_getr hx hb hw (cX0 hE) (own := RX11) (ref := RX11) (C := RX11) (T := TX11) (N := 14) hts hiX11 hown rfl 0 (by decide) hk24 (fun _ h9 => h9) rfl dX11_crumble_57 ?_
        refine x_getr hx hb hw (cX2 hE) (own := RX11) (ref := RX10) (C := RX10) (T := TX10) (N := 4) hts hiX10 hown rfl 0 (by decide) hk107 (fun _ h9 => h9) rfl dX11_crumble_60 ?_
        refine lv_bipush (v := 7) hx hb dX11_crumble_63 (by decide) ?_
        refine lv_dup2_11 hx hb dX11_crumble_65 rfl rfl ?_
        obtain ⟨hin, hf⟩ := xr_f hf
        refine x_iald hx hb hw (cX3 hE) hin dX11_crumble_66 ?_
        refine lv_topi (fun v9 ex => ?_)
        replace hf := hf v9 ex
        clear ex hin
        refine lv_iload_n hx hb dX11_crumble_67 rfl (lv_at hl 2 rfl) ?_
        refine lv_iadd hx hb dX11_crumble_68 ?_
        obtain ⟨hin, hf⟩ := xs_f hf
        refine x_iast hx hb hw (cX3 hE) hin dX11_crumble_69 (fun σ10 H locs ex hw => ?_)
        replace hf := hf σ10 ex
        clear ex hin
        refine lv_iload_n hx hb dX11_crumble_70 rfl (lv_at hl 2 rfl) ?_
        exact x_tiret hx hb hr hlk hw hf (Nat.le_of_ble_eq_true rfl) (Nat.le_of_ble_eq_true rfl) dX11_crumble_71
      · replace hf := xif_neg c33 hf
        refine lv_aload_n hx hb dX11_crumble_36 rfl (lv_at hl 0 rfl) ?_
        refine x_getr hx hb hw (cX0 hE) (own := RX11) (ref := RX11) (C := RX11) (T := TX11) (N := 14) hts hiX11 hown rfl 5 (by decide) hk55 (fun _ h9 => h9) rfl dX11_crumble_37 ?_
        refine x_getr hx hb hw (cX27 hE) (own := RX11) (ref := RX0) (C := RX0) (T := TX0) (N := 1) hts hiX0 hown rfl 0 (by decide) hk258 (fun _ h9 => h9) rfl dX11_crumble_40 ?_
        refine lv_iload_n hx hb dX11_crumble_43 rfl (lv_at hl 1 rfl) ?_
        refine lv_iconst (v := 4) hx hb dX11_crumble_44 (by decide) ?_
        refine lv_imul hx hb dX11_crumble_45 ?_
        refine lv_iload_n hx hb dX11_crumble_46 rfl (lv_at hl 3 rfl) ?_
        refine lv_iadd hx hb dX11_crumble_47 ?_
        refine lv_iconst (v := 0) hx hb dX11_crumble_48 (by decide) ?_
        obtain ⟨hin, hf⟩ := xs_f hf
        refine x_iast hx hb hw (cX28 hE) hin dX11_crumble_49 (fun σ11 H locs ex hw => ?_)
        replace hf := hf σ11 ex
        clear ex hin
        obtain ⟨v12, ex⟩ : ∃ y : Int32, y = (a3 + 1) := ⟨_, rfl⟩
        replace hf := xl_f hf v12 ex
        refine lv_iinc (v := v12) (lv' := [(3, .int v12), (0, .ref (E.a 0)), (1, .int a1), (2, .int a2)]) hx hb dX11_crumble_50 hl (k := 3) rfl (by rw [ex]; rfl) (by decide) rfl (fun ls hl => ?_)
        clear ex
        refine lv_goto (tgt := 31) hx hb dX11_crumble_53 (by decide) ?_
        exact ih31 a1 a2 v12 σ11 _ _ _ hw (lv_sub hl [1, 2, 3, 0] rfl) hf
  refine lv_aload_n hx hb dX11_crumble_0 rfl (lv_at hl 0 rfl) ?_
  refine lv_iload_n hx hb dX11_crumble_1 rfl (lv_at hl 1 rfl) ?_
  rcases xct_e hf with ⟨k2, σ2, hcl, hf⟩ | ⟨r1, σ2, hcl, hf⟩
  · refine x_tcallv (vx_runV (As := [.int p0]) (rest := []) ⟨hx, hb, hml, hown, hts⟩ (mX11_needRecipe hl0 hE p0 σ (.inr k2) σ2 hcl s.heap.size) (cwV 1 hts gX11_crumble_X11_needRecipe rfl rfl rfl (by decide +kernel) ⟨Nat.le_of_ble_eq_true rfl, Nat.le_of_ble_eq_true rfl⟩) (x_preV _ hw hA hG (cX0 hE) rfl) rfl rfl hl.1 rfl (lv_room (Nat.le_of_ble_eq_true rfl)) dX11_crumble_2 ⟨Nat.le_of_ble_eq_true rfl, Nat.le_of_ble_eq_true rfl⟩) hw hA (fun q9 ce H locs h1 h2 h3 hw => ?_) (fun H locs h1 hw => nomatch h1)
    exact x_tout hlk hex h1 h2 h3 hw hf (Nat.le_of_ble_eq_true rfl) (Nat.le_of_ble_eq_true rfl)
  refine x_tcallv (vx_runV (As := [.int p0]) (rest := []) ⟨hx, hb, hml, hown, hts⟩ (mX11_needRecipe hl0 hE p0 σ (.inl r1) σ2 hcl s.heap.size) (cwV 1 hts gX11_crumble_X11_needRecipe rfl rfl rfl (by decide +kernel) ⟨Nat.le_of_ble_eq_true rfl, Nat.le_of_ble_eq_true rfl⟩) (x_preV _ hw hA hG (cX0 hE) rfl) rfl rfl hl.1 rfl (lv_room (Nat.le_of_ble_eq_true rfl)) dX11_crumble_2 ⟨Nat.le_of_ble_eq_true rfl, Nat.le_of_ble_eq_true rfl⟩) hw hA (fun q9 ce H locs h1 h2 h3 hw => by obtain ⟨_, h9, _⟩ := h3; cases h9) (fun H locs h1 hw => ?_)
  clear hcl h1
  refine lv_aload_n hx hb dX11_crumble_5 rfl (lv_at hl 0 rfl) ?_
  obtain ⟨σ4, hcl, hf⟩ := xc_e hf
  refine x_callv (va_runV (As := []) (rest := []) ⟨hx, hb, hml, hown, hts⟩ (mX11_remember hE σ2 σ4 hcl H.size) (cwV 0 hts gX11_crumble_X11_remember rfl rfl rfl (by decide +kernel) ⟨Nat.le_of_ble_eq_true rfl, Nat.le_of_ble_eq_true rfl⟩) (x_preV _ hw hA hG (cX0 hE) rfl) rfl rfl hl.1 rfl (lv_room (Nat.le_of_ble_eq_true rfl)) dX11_crumble_6 ⟨Nat.le_of_ble_eq_true rfl, Nat.le_of_ble_eq_true rfl⟩) hw hA (fun H locs hw => ?_)
  clear hcl
  refine lv_aload_n hx hb dX11_crumble_9 rfl (lv_at hl 0 rfl) ?_
  refine x_getr hx hb hw (cX0 hE) (own := RX11) (ref := RX11) (C := RX11) (T := TX11) (N := 14) hts hiX11 hown rfl 5 (by decide) hk55 (fun _ h9 => h9) rfl dX11_crumble_10 ?_
  refine lv_iload_n hx hb dX11_crumble_13 rfl (lv_at hl 1 rfl) ?_
  refine lv_iconst (v := 1) hx hb dX11_crumble_14 (by decide) ?_
  obtain ⟨r5, σ6, hcl, hf⟩ := xc2_f hf
  refine x_calli (va_runV (As := [.int p0, .int 1]) (rest := []) ⟨hx, hb, hml, hown, hts⟩ (mX0_from hE p0 1 σ4 r5 σ6 hcl H.size) (cwV 2 hts gX11_crumble_X0_from rfl rfl rfl (by decide +kernel) ⟨Nat.le_of_ble_eq_true rfl, Nat.le_of_ble_eq_true rfl⟩) (x_preV _ hw hA hG (cX27 hE) rfl) rfl rfl hl.1 rfl (lv_room (Nat.le_of_ble_eq_true rfl)) dX11_crumble_15 ⟨Nat.le_of_ble_eq_true rfl, Nat.le_of_ble_eq_true rfl⟩) hw hA (fun H locs hw => ?_)
  clear hcl
  refine lv_aload_n hx hb dX11_crumble_18 rfl (lv_at hl 0 rfl) ?_
  refine x_getr hx hb hw (cX0 hE) (own := RX11) (ref := RX11) (C := RX11) (T := TX11) (N := 14) hts hiX11 hown rfl 1 (by decide) hk31 (fun _ h9 => h9) rfl dX11_crumble_19 ?_
  refine x_getr hx hb hw (cX4 hE) (own := RX11) (ref := RX8) (C := RX8) (T := TX8) (N := 8) hts hiX8 hown rfl 0 (by decide) hk124 (fun _ h9 => h9) rfl dX11_crumble_22 ?_
  refine lv_iload_n hx hb dX11_crumble_25 rfl (lv_at hl 1 rfl) ?_
  obtain ⟨hin, hf⟩ := xr_f hf
  refine x_iald hx hb hw (cX5 hE) hin dX11_crumble_26 ?_
  refine lv_topi (fun v7 ex => ?_)
  replace hf := hf v7 ex
  clear ex hin
  refine lv_imul hx hb dX11_crumble_27 ?_
  refine lv_topi (fun v8 ex => ?_)
  replace hf := xl_f hf v8 ex
  clear ex
  refine lv_istore_n (lv' := [(2, .int v8), (0, .ref (E.a 0)), (1, .int p0)]) hx hb dX11_crumble_28 rfl hl (by decide) rfl (fun ls hl => ?_)
  refine lv_iconst (v := 1) hx hb dX11_crumble_29 (by decide) ?_
  refine lv_istore_n (lv' := [(3, .int 1), (2, .int v8), (0, .ref (E.a 0)), (1, .int p0)]) hx hb dX11_crumble_30 rfl hl (by decide) rfl (fun ls hl => ?_)
  exact h31 xFU p0 v8 1 σ6 _ _ _ hw (lv_sub hl [2, 3, 1, 0] rfl) hf

def fX11_setFlour_c47 (a1 : Int32) (a2 : Int32) (a3 : Int32) (a4 : Int32) (t0 : Int32) (σ : xSt) : Option (xO × xSt) := (xct (fX11_needArgument t0 σ) fun r11 σ12 => (xc (fX11_remember σ12) fun σ14 => (xr σ14 31 4 a1 fun v15 => (xs σ14 30 4 a1 a2 fun σ16 => (xs σ16 31 4 a1 a3 fun σ17 => (xs σ17 32 4 a1 a4 fun σ18 => some ((.inl v15 : xO), σ18)))))))
def fX11_setFlour_c46 (a1 : Int32) (a2 : Int32) (a3 : Int32) (a4 : Int32) (σ : xSt) : Option (xO × xSt) := fX11_setFlour_c47 a1 a2 a3 a4 0 σ
def fX11_setFlour (p0 : Int32) (p1 : Int32) (p2 : Int32) (p3 : Int32) (σ : xSt) : Option (xO × xSt) := (xc2 (fX11_isWithin p0 0 3 σ) fun r1 σ2 => (xct (fX11_needIndex r1 σ2) fun r3 σ4 => (xc2 (fX11_isWithin p1 0 200 σ4) fun r5 σ6 => (if r5 = 0 then fX11_setFlour_c46 p0 p1 p2 p3 σ6 else (xc2 (fX11_isWithin p2 0 999 σ6) fun r7 σ8 => (if r7 = 0 then fX11_setFlour_c46 p0 p1 p2 p3 σ8 else (xc2 (fX11_isWithin p3 0 100 σ8) fun r9 σ10 => (if r9 = 0 then fX11_setFlour_c46 p0 p1 p2 p3 σ10 else fX11_setFlour_c47 p0 p1 p2 p3 1 σ10))))))))
abbrev rmX11_setFlour : Room := { frames := 7, cells := 2, slots := 12, locals := 139 }
set_option maxRecDepth 100000 in
set_option maxHeartbeats 4000000 in
theorem mX11_setFlour {l : Launch} (hl0 : l.stackTraces = false) {E : xE} (hE : E.sh = shX) (p0 : Int32) (p1 : Int32) (p2 : Int32) (p3 : Int32) (σ : xSt) (o1 : xO) (o2 : xSt) (hf : fX11_setFlour p0 p1 p2 p3 σ = some (o1, o2)) : xMt l yX11_setFlour wsX11_setFlour rmX11_setFlour E [.ref (E.a 0), .int p0, .int p1, .int p2, .int p3] σ o1 o2 2 := by
  unfold fX11_setFlour at hf
  refine xMt_of (cc := cX11_setFlour) (maxL := 6) (ret := (some .int)) (by decide) rfl (Nat.le_of_ble_eq_true rfl) ?_
  intro p e s m args below meth c A ls ⟨hx, hb, hr, hml, hown, hts, hlk⟩ hA hG hw hl hex
  have hown : s.vm.findClass RX11 = some m.cls := hown
  have hl : lv_has ls 6 [(0, .ref (E.a 0)), (1, .int p0), (2, .int p1), (3, .int p2), (4, .int p3)] := hl
  have hk60 := hts (.fieldLink RX11 60 "OvenRound" "flours" "LOvenRound$Flours;") (by decide +kernel)
  have hiX11 : ∀ w ∈ wsX110, w ∈ wsX11_setFlour := by decide +kernel
  have hk275 := hts (.fieldLink RX11 275 "OvenRound$Flours" "cost" "[I") (by decide +kernel)
  have hiX3 : ∀ w ∈ wsX30, w ∈ wsX11_setFlour := by decide +kernel
  have hk278 := hts (.fieldLink RX11 278 "OvenRound$Flours" "strength" "[I") (by decide +kernel)
  have hk281 := hts (.fieldLink RX11 281 "OvenRound$Flours" "cap" "[I") (by decide +kernel)
  have h47 : ∀ (a1 : Int32) (a2 : Int32) (a3 : Int32) (a4 : Int32) (t0 : Int32) (σ : xSt) (H : Heap) (locs : List Loc) (ls : Array Slot), xw E A s.heap s σ H locs → lv_has ls 6 [(0, .ref (E.a 0)), (1, .int a1), (2, .int a2), (3, .int a3), (4, .int a4)] → fX11_setFlour_c47 a1 a2 a3 a4 t0 σ = some (o1, o2) → W p l e rmX11_setFlour s m args below meth c H locs 1 6 (vx_MQ below (xQt E A o1 o2) (xXt E A o1 o2) args s 2 12 A) (F0 m 47 ls [.int t0]) := by
    intro a1 a2 a3 a4 t0 σ H locs ls hw hl hf
    unfold fX11_setFlour_c47 at hf
    rcases xct_e hf with ⟨k47, σ12, hcl, hf⟩ | ⟨r11, σ12, hcl, hf⟩
    · refine x_tcallv (vx_runS (As := [.int t0]) (rest := []) ⟨hx, hb, hml, hown, hts⟩ (mX11_needArgument hl0 t0 σ (.inr k47) σ12 hcl H.size) (va_cwS 1 hts gX11_setFlour_X11_needArgument rfl rfl rfl (by decide +kernel) ⟨Nat.le_of_ble_eq_true rfl, Nat.le_of_ble_eq_true rfl⟩) (x_preS _ hw hA hG) rfl rfl hl.1 rfl (lv_room (Nat.le_of_ble_eq_true rfl)) dX11_setFlour_47 ⟨Nat.le_of_ble_eq_true rfl, Nat.le_of_ble_eq_true rfl⟩) hw hA (fun q9 ce H locs h1 h2 h3 hw => ?_) (fun H locs h1 hw => nomatch h1)
      exact x_tout hlk hex h1 h2 h3 hw hf (Nat.le_of_ble_eq_true rfl) (Nat.le_of_ble_eq_true rfl)
    refine x_tcallv (vx_runS (As := [.int t0]) (rest := []) ⟨hx, hb, hml, hown, hts⟩ (mX11_needArgument hl0 t0 σ (.inl r11) σ12 hcl H.size) (va_cwS 1 hts gX11_setFlour_X11_needArgument rfl rfl rfl (by decide +kernel) ⟨Nat.le_of_ble_eq_true rfl, Nat.le_of_ble_eq_true rfl⟩) (x_preS _ hw hA hG) rfl rfl hl.1 rfl (lv_room (Nat.le_of_ble_eq_true rfl)) dX11_setFlour_47 ⟨Nat.le_of_ble_eq_true rfl, Nat.le_of_ble_eq_true rfl⟩) hw hA (fun q9 ce H locs h1 h2 h3 hw => by obtain ⟨_, h9, _⟩ := h3; cases h9) (fun H locs h1 hw => ?_)
    clear hcl h1
    refine lv_aload_n hx hb dX11_setFlour_50 rfl (lv_at hl 0 rfl) ?_
    obtain ⟨σ14, hcl, hf⟩ := xc_e hf
    refine x_callv (va_runV (As := []) (rest := []) ⟨hx, hb, hml, hown, hts⟩ (mX11_remember hE σ12 σ14 hcl H.size) (cwV 0 hts gX11_setFlour_X11_remember rfl rfl rfl (by decide +kernel) ⟨Nat.le_of_ble_eq_true rfl, Nat.le_of_ble_eq_true rfl⟩) (x_preV _ hw hA hG (cX0 hE) rfl) rfl rfl hl.1 rfl (lv_room (Nat.le_of_ble_eq_true rfl)) dX11_setFlour_51 ⟨Nat.le_of_ble_eq_true rfl, Nat.le_of_ble_eq_true rfl⟩) hw hA (fun H locs hw => ?_)
    clear hcl
    refine lv_aload_n hx hb dX11_setFlour_54 rfl (lv_at hl 0 rfl) ?_
    refine x_getr hx hb hw (cX0 hE) (own := RX11) (ref := RX11) (C := RX11) (T := TX11) (N := 14) hts hiX11 hown rfl 6 (by decide) hk60 (fun _ h9 => h9) rfl dX11_setFlour_55 ?_
    refine x_getr hx hb hw (cX29 hE) (own := RX11) (ref := RX3) (C := RX3) (T := TX3) (N := 7) hts hiX3 hown rfl 1 (by decide) hk275 (fun _ h9 => h9) rfl dX11_setFlour_58 ?_
    refine lv_iload_n hx hb dX11_setFlour_61 rfl (lv_at hl 1 rfl) ?_
    obtain ⟨hin, hf⟩ := xr_f hf
    refine x_iald hx hb hw (cX31 hE) hin dX11_setFlour_62 ?_
    refine lv_topi (fun v15 ex => ?_)
    replace hf := hf v15 ex
    clear ex hin
    refine lv_istore (lv' := [(5, .int v15), (0, .ref (E.a 0)), (1, .int a1), (2, .int a2), (3, .int a3), (4, .int a4)]) hx hb dX11_setFlour_63 hl (by decide) rfl (fun ls hl => ?_)
    refine lv_aload_n hx hb dX11_setFlour_65 rfl (lv_at hl 1 rfl) ?_
    refine x_getr hx hb hw (cX0 hE) (own := RX11) (ref := RX11) (C := RX11) (T := TX11) (N := 14) hts hiX11 hown rfl 6 (by decide) hk60 (fun _ h9 => h9) rfl dX11_setFlour_66 ?_
    refine x_getr hx hb hw (cX29 hE) (own := RX11) (ref := RX3) (C := RX3) (T := TX3) (N := 7) hts hiX3 hown rfl 0 (by decide) hk278 (fun _ h9 => h9) rfl dX11_setFlour_69 ?_
    refine lv_iload_n hx hb dX11_setFlour_72 rfl (lv_at hl 2 rfl) ?_
    refine lv_iload_n hx hb dX11_setFlour_73 rfl (lv_at hl 3 rfl) ?_
    obtain ⟨hin, hf⟩ := xs_f hf
    refine x_iast hx hb hw (cX30 hE) hin dX11_setFlour_74 (fun σ16 H locs ex hw => ?_)
    replace hf := hf σ16 ex
    clear ex hin
    refine lv_aload_n hx hb dX11_setFlour_75 rfl (lv_at hl 1 rfl) ?_
    refine x_getr hx hb hw (cX0 hE) (own := RX11) (ref := RX11) (C := RX11) (T := TX11) (N := 14) hts hiX11 hown rfl 6 (by decide) hk60 (fun _ h9 => h9) rfl dX11_setFlour_76 ?_
    refine x_getr hx hb hw (cX29 hE) (own := RX11) (ref := RX3) (C := RX3) (T := TX3) (N := 7) hts hiX3 hown rfl 1 (by decide) hk275 (fun _ h9 => h9) rfl dX11_setFlour_79 ?_
    refine lv_iload_n hx hb dX11_setFlour_82 rfl (lv_at hl 2 rfl) ?_
    refine lv_iload_n hx hb dX11_setFlour_83 rfl (lv_at hl 4 rfl) ?_
    obtain ⟨hin, hf⟩ := xs_f hf
    refine x_iast hx hb hw (cX31 hE) hin dX11_setFlour_84 (fun σ17 H locs ex hw => ?_)
    replace hf := hf σ17 ex
    clear ex hin
    refine lv_aload_n hx hb dX11_setFlour_85 rfl (lv_at hl 1 rfl) ?_
    refine x_getr hx hb hw (cX0 hE) (own := RX11) (ref := RX11) (C := RX11) (T := TX11) (N := 14) hts hiX11 hown rfl 6 (by decide) hk60 (fun _ h9 => h9) rfl dX11_setFlour_86 ?_
    refine x_getr hx hb hw (cX29 hE) (own := RX11) (ref := RX3) (C := RX3) (T := TX3) (N := 7) hts hiX3 hown rfl 2 (by decide) hk281 (fun _ h9 => h9) rfl dX11_setFlour_89 ?_
    refine lv_iload_n hx hb dX11_setFlour_92 rfl (lv_at hl 2 rfl) ?_
    refine lv_iload hx hb dX11_setFlour_93 (lv_at hl 5 rfl) ?_
    obtain ⟨hin, hf⟩ := xs_f hf
    refine x_iast hx hb hw (cX32 hE) hin dX11_setFlour_95 (fun σ18 H locs ex hw => ?_)
    replace hf := hf σ18 ex
    clear ex hin
    refine lv_iload hx hb dX11_setFlour_96 (lv_at hl 0 rfl) ?_
    exact x_tiret hx hb hr hlk hw hf (Nat.le_of_ble_eq_true rfl) (Nat.le_of_ble_eq_true rfl) dX11_setFlour_98
  have h46 : ∀ (a1 : Int32) (a2 : Int32) (a3 : Int32) (a4 : Int32) (σ : xSt) (H : Heap) (locs : List Loc) (ls : Array Slot), xw E A s.heap s σ H locs → lv_has ls 6 [(0, .ref (E.a 0)), (1, .int a1), (2, .int a2), (3, .int a3), (4, .int a4)] → fX11_setFlour_c46 a1 a2 a3 a4 σ = some (o1, o2) → W p l e rmX11_setFlour s m args below meth c H locs 1 6 (vx_MQ below (xQt E A o1 o2) (xXt E A o1 o2) args s 2 12 A) (F0 m 46 ls []) := by
    intro a1 a2 a3 a4 σ H locs ls hw hl hf
    unfold fX11_setFlour_c46 at hf
    refine lv_iconst (v := 0) hx hb dX11_setFlour_46 (by decide) ?_
    exact h47 a1 a2 a3 a4 0 σ _ _ _ hw (lv_sub hl [0, 1, 2, 3, 4] rfl) hf
  refine lv_iload_n hx hb dX11_setFlour_0 rfl (lv_at hl 1 rfl) ?_
  refine lv_iconst (v := 0) hx hb dX11_setFlour_1 (by decide) ?_
  refine lv_iconst (v := 3) hx hb dX11_setFlour_2 (by decide) ?_
  obtain ⟨r1, σ2, hcl, hf⟩ := xc2_f hf
  refine x_calli (va_runS (As := [.int p0, .int 0, .int 3]) (rest := []) ⟨hx, hb, hml, hown, hts⟩ (mX11_isWithin hE p0 0 3 σ r1 σ2 hcl s.heap.size) (va_cwS 3 hts gX11_setFlour_X11_isWithin rfl rfl rfl (by decide +kernel) ⟨Nat.le_of_ble_eq_true rfl, Nat.le_of_ble_eq_true rfl⟩) (x_preS _ hw hA hG) rfl rfl hl.1 rfl (lv_room (Nat.le_of_ble_eq_true rfl)) dX11_setFlour_3 ⟨Nat.le_of_ble_eq_true rfl, Nat.le_of_ble_eq_true rfl⟩) hw hA (fun H locs hw => ?_)
  clear hcl
  rcases xct_e hf with ⟨k6, σ4, hcl, hf⟩ | ⟨r3, σ4, hcl, hf⟩
  · refine x_tcallv (vx_runS (As := [.int r1]) (rest := []) ⟨hx, hb, hml, hown, hts⟩ (mX11_needIndex hl0 r1 σ2 (.inr k6) σ4 hcl H.size) (va_cwS 1 hts gX11_setFlour_X11_needIndex rfl rfl rfl (by decide +kernel) ⟨Nat.le_of_ble_eq_true rfl, Nat.le_of_ble_eq_true rfl⟩) (x_preS _ hw hA hG) rfl rfl hl.1 rfl (lv_room (Nat.le_of_ble_eq_true rfl)) dX11_setFlour_6 ⟨Nat.le_of_ble_eq_true rfl, Nat.le_of_ble_eq_true rfl⟩) hw hA (fun q9 ce H locs h1 h2 h3 hw => ?_) (fun H locs h1 hw => nomatch h1)
    exact x_tout hlk hex h1 h2 h3 hw hf (Nat.le_of_ble_eq_true rfl) (Nat.le_of_ble_eq_true rfl)
  refine x_tcallv (vx_runS (As := [.int r1]) (rest := []) ⟨hx, hb, hml, hown, hts⟩ (mX11_needIndex hl0 r1 σ2 (.inl r3) σ4 hcl H.size) (va_cwS 1 hts gX11_setFlour_X11_needIndex rfl rfl rfl (by decide +kernel) ⟨Nat.le_of_ble_eq_true rfl, Nat.le_of_ble_eq_true rfl⟩) (x_preS _ hw hA hG) rfl rfl hl.1 rfl (lv_room (Nat.le_of_ble_eq_true rfl)) dX11_setFlour_6 ⟨Nat.le_of_ble_eq_true rfl, Nat.le_of_ble_eq_true rfl⟩) hw hA (fun q9 ce H locs h1 h2 h3 hw => by obtain ⟨_, h9, _⟩ := h3; cases h9) (fun H locs h1 hw => ?_)
  clear hcl h1
  refine lv_iload_n hx hb dX11_setFlour_9 rfl (lv_at hl 2 rfl) ?_
  refine lv_iconst (v := 0) hx hb dX11_setFlour_10 (by decide) ?_
  refine lv_sipush (v := 200) hx hb dX11_setFlour_11 (by decide) ?_
  obtain ⟨r5, σ6, hcl, hf⟩ := xc2_f hf
  refine x_calli (va_runS (As := [.int p1, .int 0, .int 200]) (rest := []) ⟨hx, hb, hml, hown, hts⟩ (mX11_isWithin hE p1 0 200 σ4 r5 σ6 hcl H.size) (va_cwS 3 hts gX11_setFlour_X11_isWithin rfl rfl rfl (by decide +kernel) ⟨Nat.le_of_ble_eq_true rfl, Nat.le_of_ble_eq_true rfl⟩) (x_preS _ hw hA hG) rfl rfl hl.1 rfl (lv_room (Nat.le_of_ble_eq_true rfl)) dX11_setFlour_14 ⟨Nat.le_of_ble_eq_true rfl, Nat.le_of_ble_eq_true rfl⟩) hw hA (fun H locs hw => ?_)
  clear hcl
  refine lv_if_eq (tgt := 46) hx hb dX11_setFlour_17 (by decide) (fun c17 => ?_) (fun c17 => ?_)
  · replace hf := xif_pos c17 hf
    exact h46 p0 p1 p2 p3 σ6 _ _ _ hw (lv_sub hl [0, 1, 2, 3, 4] rfl) hf
  · replace hf := xif_neg c17 hf
    refine lv_iload_n hx hb dX11_setFlour_20 rfl (lv_at hl 3 rfl) ?_
    refine lv_iconst (v := 0) hx hb dX11_setFlour_21 (by decide) ?_
    refine lv_sipush (v := 999) hx hb dX11_setFlour_22 (by decide) ?_
    obtain ⟨r7, σ8, hcl, hf⟩ := xc2_f hf
    refine x_calli (va_runS (As := [.int p2, .int 0, .int 999]) (rest := []) ⟨hx, hb, hml, hown, hts⟩ (mX11_isWithin hE p2 0 999 σ6 r7 σ8 hcl H.size) (va_cwS 3 hts gX11_setFlour_X11_isWithin rfl rfl rfl (by decide +kernel) ⟨Nat.le_of_ble_eq_true rfl, Nat.le_of_ble_eq_true rfl⟩) (x_preS _ hw hA hG) rfl rfl hl.1 rfl (lv_room (Nat.le_of_ble_eq_true rfl)) dX11_setFlour_25 ⟨Nat.le_of_ble_eq_true rfl, Nat.le_of_ble_eq_true rfl⟩) hw hA (fun H locs hw => ?_)
    clear hcl
    refine lv_if_eq (tgt := 46) hx hb dX11_setFlour_28 (by decide) (fun c28 => ?_) (fun c28 => ?_)
    · replace hf := xif_pos c28 hf
      exact h46 p0 p1 p2 p3 σ8 _ _ _ hw (lv_sub hl [0, 1, 2, 3, 4] rfl) hf
    · replace hf := xif_neg c28 hf
      refine lv_iload hx hb dX11_setFlour_31 (lv_at hl 4 rfl) ?_
      refine lv_iconst (v := 0) hx hb dX11_setFlour_33 (by decide) ?_
      refine lv_bipush (v := 100) hx hb dX11_setFlour_34 (by decide) ?_
      obtain ⟨r9, σ10, hcl, hf⟩ := xc2_f hf
      refine x_calli (va_runS (As := [.int p3, .int 0, .int 100]) (rest := []) ⟨hx, hb, hml, hown, hts⟩ (mX11_isWithin hE p3 0 100 σ8 r9 σ10 hcl H.size) (va_cwS 3 hts gX11_setFlour_X11_isWithin rfl rfl rfl (by decide +kernel) ⟨Nat.le_of_ble_eq_true rfl, Nat.le_of_ble_eq_true rfl⟩) (x_preS _ hw hA hG) rfl rfl hl.1 rfl (lv_room (Nat.le_of_ble_eq_true rfl)) dX11_setFlour_36 ⟨Nat.le_of_ble_eq_true rfl, Nat.le_of_ble_eq_true rfl⟩) hw hA (fun H locs hw => ?_)
      clear hcl
      refine lv_if_eq (tgt := 46) hx hb dX11_setFlour_39 (by decide) (fun c39 => ?_) (fun c39 => ?_)
      · replace hf := xif_pos c39 hf
        exact h46 p0 p1 p2 p3 σ10 _ _ _ hw (lv_sub hl [0, 1, 2, 3, 4] rfl) hf
      · replace hf := xif_neg c39 hf
        refine lv_iconst (v := 1) hx hb dX11_setFlour_42 (by decide) ?_
        refine lv_goto (tgt := 47) hx hb dX11_setFlour_43 (by decide) ?_
        exact h47 p0 p1 p2 p3 1 σ10 _ _ _ hw (lv_sub hl [0, 1, 2, 3, 4] rfl) hf

def fX11_lowestTerm_c39 (a0 : Int32) (a1 : Int32) (a2 : Int32) (a3 : Int32) (σ : xSt) : Option (Int32 × xSt) := (if a3 = 0 then some (0, σ) else (if a2 = 0 then (xnz a3 (some ((a0 / a3), σ))) else (xnz a3 (some ((a1 / a3), σ)))))
def fX11_lowestTerm_c8 : Nat → Int32 → Int32 → Int32 → Int32 → Int32 → Int32 → xSt → Option (Int32 × xSt)
  | 0 => fun _ _ _ _ _ _ _ => none
  | n + 1 => fun a0 a1 a2 a3 a4 a5 σ => (if 64 ≤ a5 then fX11_lowestTerm_c39 a0 a1 a2 a3 σ else (if a4 = 0 then fX11_lowestTerm_c39 a0 a1 a2 a3 σ else (xnz a4 ((xl (a3 - a3 / a4 * a4) fun v1 => (xl (a5 + 1) fun v2 => fX11_lowestTerm_c8 n a0 a1 a2 a4 v1 v2 σ))))))
theorem fX11_lowestTerm_c8_s (n : Nat) (a0 : Int32) (a1 : Int32) (a2 : Int32) (a3 : Int32) (a4 : Int32) (a5 : Int32) (σ : xSt) : fX11_lowestTerm_c8 (n + 1) a0 a1 a2 a3 a4 a5 σ = ((if 64 ≤ a5 then fX11_lowestTerm_c39 a0 a1 a2 a3 σ else (if a4 = 0 then fX11_lowestTerm_c39 a0 a1 a2 a3 σ else (xnz a4 ((xl (a3 - a3 / a4 * a4) fun v1 => (xl (a5 + 1) fun v2 => fX11_lowestTerm_c8 n a0 a1 a2 a4 v1 v2 σ)))))) : Option (Int32 × xSt)) := rfl
def fX11_lowestTerm (p0 : Int32) (p1 : Int32) (p2 : Int32) (σ : xSt) : Option (Int32 × xSt) := fX11_lowestTerm_c8 xFU p0 p1 p2 p1 p0 0 σ
abbrev rmX11_lowestTerm : Room := { frames := 0, cells := 0, slots := 0, locals := 0 }
set_option maxRecDepth 100000 in
set_option maxHeartbeats 4000000 in
theorem mX11_lowestTerm {l : Launch} {E : xE} (hE : E.sh = shX) (p0 : Int32) (p1 : Int32) (p2 : Int32) (σ : xSt) (o1 : Int32) (o2 : xSt) (hf : fX11_lowestTerm p0 p1 p2 σ = some (o1, o2)) : xMi l yX11_lowestTerm wsX11_lowestTerm rmX11_lowestTerm E [.int p0, .int p1, .int p2] σ o1 o2 := by
  unfold fX11_lowestTerm at hf
  refine xMi_of (cc := cX11_lowestTerm) (maxL := 7) (ret := (some .int)) (by decide) rfl (Nat.le_of_ble_eq_true rfl) ?_
  intro p e s m args below meth c A ls ⟨hx, hb, hr, hml, hown, hts, hlk⟩ hA hG hw hl
  have hown : s.vm.findClass RX11 = some m.cls := hown
  have hl : lv_has ls 7 [(0, .int p0), (1, .int p1), (2, .int p2)] := hl
  have h39 : ∀ (a0 : Int32) (a1 : Int32) (a2 : Int32) (a3 : Int32) (σ : xSt) (H : Heap) (locs : List Loc) (ls : Array Slot), xw E A s.heap s σ H locs → lv_has ls 7 [(0, .int a0), (1, .int a1), (2, .int a2), (3, .int a3)] → fX11_lowestTerm_c39 a0 a1 a2 a3 σ = some (o1, o2) → W p l e rmX11_lowestTerm s m args below meth c H locs 0 0 (MQ below (xQi E A o1 o2) args s 0 0 A) (F0 m 39 ls []) := by
    intro a0 a1 a2 a3 σ H locs ls hw hl hf
    unfold fX11_lowestTerm_c39 at hf
    refine lv_iload_n hx hb dX11_lowestTerm_39 rfl (lv_at hl 3 rfl) ?_
    refine lv_if_ne (tgt := 45) hx hb dX11_lowestTerm_40 (by decide) (fun c40 => ?_) (fun c40 => ?_)
    · replace hf := xif_neg c40 hf
      refine lv_iload_n hx hb dX11_lowestTerm_45 rfl (lv_at hl 2 rfl) ?_
      refine lv_if_eq (tgt := 53) hx hb dX11_lowestTerm_46 (by decide) (fun c46 => ?_) (fun c46 => ?_)
      · replace hf := xif_pos c46 hf
        refine lv_iload_n hx hb dX11_lowestTerm_53 rfl (lv_at hl 0 rfl) ?_
        refine lv_iload_n hx hb dX11_lowestTerm_54 rfl (lv_at hl 3 rfl) ?_
        obtain ⟨hne, hf⟩ := xnz_e hf
        refine lv_idiv hx hb dX11_lowestTerm_55 hne ?_
        exact x_iret hx hb hr hlk hw hf dX11_lowestTerm_56
      · replace hf := xif_neg c46 hf
        refine lv_iload_n hx hb dX11_lowestTerm_49 rfl (lv_at hl 1 rfl) ?_
        refine lv_goto (tgt := 54) hx hb dX11_lowestTerm_50 (by decide) ?_
        refine lv_iload_n hx hb dX11_lowestTerm_54 rfl (lv_at hl 3 rfl) ?_
        obtain ⟨hne, hf⟩ := xnz_e hf
        refine lv_idiv hx hb dX11_lowestTerm_55 hne ?_
        exact x_iret hx hb hr hlk hw hf dX11_lowestTerm_56
    · replace hf := xif_pos c40 hf
      refine lv_iconst (v := 0) hx hb dX11_lowestTerm_43 (by decide) ?_
      exact x_iret hx hb hr hlk hw hf dX11_lowestTerm_44
  have h8 : ∀ (n : Nat) (a0 : Int32) (a1 : Int32) (a2 : Int32) (a3 : Int32) (a4 : Int32) (a5 : Int32) (σ : xSt) (H : Heap) (locs : List Loc) (ls : Array Slot), xw E A s.heap s σ H locs → lv_has ls 7 [(0, .int a0), (1, .int a1), (2, .int a2), (3, .int a3), (4, .int a4), (5, .int a5)] → fX11_lowestTerm_c8 n a0 a1 a2 a3 a4 a5 σ = some (o1, o2) → W p l e rmX11_lowestTerm s m args below meth c H locs 0 0 (MQ below (xQi E A o1 o2) args s 0 0 A) (F0 m 8 ls []) := by
    intro n8
    induction n8 with
    | zero => intro a0 a1 a2 a3 a4 a5 σ H locs ls hw hl hf; exact nomatch hf
    | succ n8 ih8 =>
      intro a0 a1 a2 a3 a4 a5 σ H locs ls hw hl hf
      rw [fX11_lowestTerm_c8_s] at hf
      refine lv_iload hx hb dX11_lowestTerm_8 (lv_at hl 5 rfl) ?_
      refine lv_bipush (v := 64) hx hb dX11_lowestTerm_10 (by decide) ?_
      refine lv_icmp_ge (tgt := 39) hx hb dX11_lowestTerm_12 (by decide) (fun c12 => ?_) (fun c12 => ?_)
      · replace hf := xif_pos c12 hf
        exact h39 a0 a1 a2 a3 σ _ _ _ hw (lv_sub hl [0, 1, 2, 3] rfl) hf
      · replace hf := xif_neg c12 hf
        refine lv_iload hx hb dX11_lowestTerm_15 (lv_at hl 4 rfl) ?_
        refine lv_if_eq (tgt := 39) hx hb dX11_lowestTerm_17 (by decide) (fun c17 => ?_) (fun c17 => ?_)
        · replace hf := xif_pos c17 hf
          exact h39 a0 a1 a2 a3 σ _ _ _ hw (lv_sub hl [0, 1, 2, 3] rfl) hf
        · replace hf := xif_neg c17 hf
          refine lv_iload_n hx hb dX11_lowestTerm_20 rfl (lv_at hl 3 rfl) ?_
          refine lv_iload hx hb dX11_lowestTerm_21 (lv_at hl 4 rfl) ?_
          obtain ⟨hne, hf⟩ := xnz_e hf
          refine lv_irem hx hb dX11_lowestTerm_23 hne ?_
          refine lv_topi (fun v1 ex => ?_)
          replace hf := xl_f hf v1 ex
          clear ex
          refine lv_istore (lv' := [(6, .int v1), (0, .int a0), (1, .int a1), (2, .int a2), (3, .int a3), (4, .int a4), (5, .int a5)]) hx hb dX11_lowestTerm_24 hl (by decide) rfl (fun ls hl => ?_)
          refine lv_iload hx hb dX11_lowestTerm_26 (lv_at hl 5 rfl) ?_
          refine lv_istore_n (lv' := [(3, .int a4), (6, .int v1), (0, .int a0), (1, .int a1), (2, .int a2), (4, .int a4), (5, .int a5)]) hx hb dX11_lowestTerm_28 rfl hl (by decide) rfl (fun ls hl => ?_)
          refine lv_iload hx hb dX11_lowestTerm_29 (lv_at hl 1 rfl) ?_
          refine lv_istore (lv' := [(4, .int v1), (3, .int a4), (6, .int v1), (0, .int a0), (1, .int a1), (2, .int a2), (5, .int a5)]) hx hb dX11_lowestTerm_31 hl (by decide) rfl (fun ls hl => ?_)
          obtain ⟨v2, ex⟩ : ∃ y : Int32, y = (a5 + 1) := ⟨_, rfl⟩
          replace hf := xl_f hf v2 ex
          refine lv_iinc (v := v2) (lv' := [(5, .int v2), (4, .int v1), (3, .int a4), (6, .int v1), (0, .int a0), (1, .int a1), (2, .int a2)]) hx hb dX11_lowestTerm_33 hl (k := 6) rfl (by rw [ex]; rfl) (by decide) rfl (fun ls hl => ?_)
          clear ex
          refine lv_goto (tgt := 8) hx hb dX11_lowestTerm_36 (by decide) ?_
          exact ih8 a0 a1 a2 a4 v1 v2 σ _ _ _ hw (lv_sub hl [4, 5, 6, 2, 1, 0] rfl) hf
  refine lv_iload_n hx hb dX11_lowestTerm_0 rfl (lv_at hl 1 rfl) ?_
  refine lv_istore_n (lv' := [(3, .int p1), (0, .int p0), (1, .int p1), (2, .int p2)]) hx hb dX11_lowestTerm_1 rfl hl (by decide) rfl (fun ls hl => ?_)
  refine lv_iload_n hx hb dX11_lowestTerm_2 rfl (lv_at hl 1 rfl) ?_
  refine lv_istore (lv' := [(4, .int p0), (3, .int p1), (0, .int p0), (1, .int p1), (2, .int p2)]) hx hb dX11_lowestTerm_3 hl (by decide) rfl (fun ls hl => ?_)
  refine lv_iconst (v := 0) hx hb dX11_lowestTerm_5 (by decide) ?_
  refine lv_istore (lv' := [(5, .int 0), (4, .int p0), (3, .int p1), (0, .int p0), (1, .int p1), (2, .int p2)]) hx hb dX11_lowestTerm_6 hl (by decide) rfl (fun ls hl => ?_)
  exact h8 xFU p0 p1 p2 p1 p0 0 σ _ _ _ hw (lv_sub hl [3, 4, 5, 2, 1, 0] rfl) hf

def fX11_mixCost_c27 (a1 : Int32) (a2 : Int32) (a3 : Int32) (t0 : Int32) (σ : xSt) : Option (xO × xSt) := (xct (fX11_needArgument t0 σ) fun r5 σ6 => (xc2 (fX3_findMix a1 a2 σ6) fun r7 σ8 => (xct (fX11_needElement r7 σ8) fun r9 σ10 => (xc2 (fX3_costOf 33 σ10) fun r11 σ12 => (xc2 (fX11_lowestTerm r11 (σ12 29 4) a3 σ12) fun r13 σ14 => some ((.inl r13 : xO), σ14))))))
def fX11_mixCost_c26 (a1 : Int32) (a2 : Int32) (a3 : Int32) (σ : xSt) : Option (xO × xSt) := fX11_mixCost_c27 a1 a2 a3 0 σ
def fX11_mixCost (p0 : Int32) (p1 : Int32) (p2 : Int32) (σ : xSt) : Option (xO × xSt) := (xc2 (fX11_isWithin p0 0 200 σ) fun r1 σ2 => (if r1 = 0 then fX11_mixCost_c26 p0 p1 p2 σ2 else (xc2 (fX11_isWithin p1 p0 200 σ2) fun r3 σ4 => (if r3 = 0 then fX11_mixCost_c26 p0 p1 p2 σ4 else fX11_mixCost_c27 p0 p1 p2 1 σ4))))
abbrev rmX11_mixCost : Room := { frames := 7, cells := 2, slots := 12, locals := 167 }
set_option maxRecDepth 100000 in
set_option maxHeartbeats 4000000 in
theorem mX11_mixCost {l : Launch} (hl0 : l.stackTraces = false) {E : xE} (hE : E.sh = shX) (p0 : Int32) (p1 : Int32) (p2 : Int32) (σ : xSt) (o1 : xO) (o2 : xSt) (hf : fX11_mixCost p0 p1 p2 σ = some (o1, o2)) : xMt l yX11_mixCost wsX11_mixCost rmX11_mixCost E [.ref (E.a 0), .int p0, .int p1, .int p2] σ o1 o2 2 := by
  unfold fX11_mixCost at hf
  refine xMt_of (cc := cX11_mixCost) (maxL := 4) (ret := (some .int)) (by decide) rfl (Nat.le_of_ble_eq_true rfl) ?_
  intro p e s m args below meth c A ls ⟨hx, hb, hr, hml, hown, hts, hlk⟩ hA hG hw hl hex
  have hown : s.vm.findClass RX11 = some m.cls := hown
  have hl : lv_has ls 4 [(0, .ref (E.a 0)), (1, .int p0), (2, .int p1), (3, .int p2)] := hl
  have hk60 := hts (.fieldLink RX11 60 "OvenRound" "flours" "LOvenRound$Flours;") (by decide +kernel)
  have hiX11 : ∀ w ∈ wsX110, w ∈ wsX11_mixCost := by decide +kernel
  have hk290 := hts (.fieldLink RX11 290 "OvenRound$Flours" "bestTops" "[I") (by decide +kernel)
  have hiX3 : ∀ w ∈ wsX30, w ∈ wsX11_mixCost := by decide +kernel
  have hk297 := hts (.fieldLink RX11 297 "OvenRound$Flours" "bestBottom" "I") (by decide +kernel)
  have h27 : ∀ (a1 : Int32) (a2 : Int32) (a3 : Int32) (t0 : Int32) (σ : xSt) (H : Heap) (locs : List Loc) (ls : Array Slot), xw E A s.heap s σ H locs → lv_has ls 4 [(0, .ref (E.a 0)), (1, .int a1), (2, .int a2), (3, .int a3)] → fX11_mixCost_c27 a1 a2 a3 t0 σ = some (o1, o2) → W p l e rmX11_mixCost s m args below meth c H locs 0 0 (vx_MQ below (xQt E A o1 o2) (xXt E A o1 o2) args s 2 12 A) (F0 m 27 ls [.int t0]) := by
    intro a1 a2 a3 t0 σ H locs ls hw hl hf
    unfold fX11_mixCost_c27 at hf
    rcases xct_e hf with ⟨k27, σ6, hcl, hf⟩ | ⟨r5, σ6, hcl, hf⟩
    · refine x_tcallv (vx_runS (As := [.int t0]) (rest := []) ⟨hx, hb, hml, hown, hts⟩ (mX11_needArgument hl0 t0 σ (.inr k27) σ6 hcl H.size) (va_cwS 1 hts gX11_mixCost_X11_needArgument rfl rfl rfl (by decide +kernel) ⟨Nat.le_of_ble_eq_true rfl, Nat.le_of_ble_eq_true rfl⟩) (x_preS _ hw hA hG) rfl rfl hl.1 rfl (lv_room (Nat.le_of_ble_eq_true rfl)) dX11_mixCost_27 ⟨Nat.le_of_ble_eq_true rfl, Nat.le_of_ble_eq_true rfl⟩) hw hA (fun q9 ce H locs h1 h2 h3 hw => ?_) (fun H locs h1 hw => nomatch h1)
      exact x_tout hlk hex h1 h2 h3 hw hf (Nat.le_of_ble_eq_true rfl) (Nat.le_of_ble_eq_true rfl)
    refine x_tcallv (vx_runS (As := [.int t0]) (rest := []) ⟨hx, hb, hml, hown, hts⟩ (mX11_needArgument hl0 t0 σ (.inl r5) σ6 hcl H.size) (va_cwS 1 hts gX11_mixCost_X11_needArgument rfl rfl rfl (by decide +kernel) ⟨Nat.le_of_ble_eq_true rfl, Nat.le_of_ble_eq_true rfl⟩) (x_preS _ hw hA hG) rfl rfl hl.1 rfl (lv_room (Nat.le_of_ble_eq_true rfl)) dX11_mixCost_27 ⟨Nat.le_of_ble_eq_true rfl, Nat.le_of_ble_eq_true rfl⟩) hw hA (fun q9 ce H locs h1 h2 h3 hw => by obtain ⟨_, h9, _⟩ := h3; cases h9) (fun H locs h1 hw => ?_)
    clear hcl h1
    refine lv_aload_n hx hb dX11_mixCost_30 rfl (lv_at hl 0 rfl) ?_
    refine x_getr hx hb hw (cX0 hE) (own := RX11) (ref := RX11) (C := RX11) (T := TX11) (N := 14) hts hiX11 hown rfl 6 (by decide) hk60 (fun _ h9 => h9) rfl dX11_mixCost_31 ?_
    refine lv_iload_n hx hb dX11_mixCost_34 rfl (lv_at hl 1 rfl) ?_
    refine lv_iload_n hx hb dX11_mixCost_35 rfl (lv_at hl 2 rfl) ?_
    obtain ⟨r7, σ8, hcl, hf⟩ := xc2_f hf
    refine x_calli (va_runV (As := [.int a1, .int a2]) (rest := []) ⟨hx, hb, hml, hown, hts⟩ (mX3_findMix hE a1 a2 σ6 r7 σ8 hcl H.size) (cwV 2 hts gX11_mixCost_X3_findMix rfl rfl rfl (by decide +kernel) ⟨Nat.le_of_ble_eq_true rfl, Nat.le_of_ble_eq_true rfl⟩) (x_preV _ hw hA hG (cX29 hE) rfl) rfl rfl hl.1 rfl (lv_room (Nat.le_of_ble_eq_true rfl)) dX11_mixCost_36 ⟨Nat.le_of_ble_eq_true rfl, Nat.le_of_ble_eq_true rfl⟩) hw hA (fun H locs hw => ?_)
    clear hcl
    rcases xct_e hf with ⟨k39, σ10, hcl, hf⟩ | ⟨r9, σ10, hcl, hf⟩
    · refine x_tcallv (vx_runS (As := [.int r7]) (rest := []) ⟨hx, hb, hml, hown, hts⟩ (mX11_needElement hl0 r7 σ8 (.inr k39) σ10 hcl H.size) (va_cwS 1 hts gX11_mixCost_X11_needElement rfl rfl rfl (by decide +kernel) ⟨Nat.le_of_ble_eq_true rfl, Nat.le_of_ble_eq_true rfl⟩) (x_preS _ hw hA hG) rfl rfl hl.1 rfl (lv_room (Nat.le_of_ble_eq_true rfl)) dX11_mixCost_39 ⟨Nat.le_of_ble_eq_true rfl, Nat.le_of_ble_eq_true rfl⟩) hw hA (fun q9 ce H locs h1 h2 h3 hw => ?_) (fun H locs h1 hw => nomatch h1)
      exact x_tout hlk hex h1 h2 h3 hw hf (Nat.le_of_ble_eq_true rfl) (Nat.le_of_ble_eq_true rfl)
    refine x_tcallv (vx_runS (As := [.int r7]) (rest := []) ⟨hx, hb, hml, hown, hts⟩ (mX11_needElement hl0 r7 σ8 (.inl r9) σ10 hcl H.size) (va_cwS 1 hts gX11_mixCost_X11_needElement rfl rfl rfl (by decide +kernel) ⟨Nat.le_of_ble_eq_true rfl, Nat.le_of_ble_eq_true rfl⟩) (x_preS _ hw hA hG) rfl rfl hl.1 rfl (lv_room (Nat.le_of_ble_eq_true rfl)) dX11_mixCost_39 ⟨Nat.le_of_ble_eq_true rfl, Nat.le_of_ble_eq_true rfl⟩) hw hA (fun q9 ce H locs h1 h2 h3 hw => by obtain ⟨_, h9, _⟩ := h3; cases h9) (fun H locs h1 hw => ?_)
    clear hcl h1
    refine lv_aload_n hx hb dX11_mixCost_42 rfl (lv_at hl 0 rfl) ?_
    refine x_getr hx hb hw (cX0 hE) (own := RX11) (ref := RX11) (C := RX11) (T := TX11) (N := 14) hts hiX11 hown rfl 6 (by decide) hk60 (fun _ h9 => h9) rfl dX11_mixCost_43 ?_
    refine lv_aload_n hx hb dX11_mixCost_46 rfl (lv_at hl 0 rfl) ?_
    refine x_getr hx hb hw (cX0 hE) (own := RX11) (ref := RX11) (C := RX11) (T := TX11) (N := 14) hts hiX11 hown rfl 6 (by decide) hk60 (fun _ h9 => h9) rfl dX11_mixCost_47 ?_
    refine x_getr hx hb hw (cX29 hE) (own := RX11) (ref := RX3) (C := RX3) (T := TX3) (N := 7) hts hiX3 hown rfl 3 (by decide) hk290 (fun _ h9 => h9) rfl dX11_mixCost_50 ?_
    obtain ⟨r11, σ12, hcl, hf⟩ := xc2_f hf
    refine x_calli (va_runV (As := [.ref (E.a 33)]) (rest := []) ⟨hx, hb, hml, hown, hts⟩ (mX3_costOf hE 33 (cX33 hE) σ10 r11 σ12 hcl H.size) (cwV 1 hts gX11_mixCost_X3_costOf rfl rfl rfl (by decide +kernel) ⟨Nat.le_of_ble_eq_true rfl, Nat.le_of_ble_eq_true rfl⟩) (x_preV _ hw hA hG (cX29 hE) rfl) rfl rfl hl.1 rfl (lv_room (Nat.le_of_ble_eq_true rfl)) dX11_mixCost_53 ⟨Nat.le_of_ble_eq_true rfl, Nat.le_of_ble_eq_true rfl⟩) hw hA (fun H locs hw => ?_)
    clear hcl
    refine lv_aload_n hx hb dX11_mixCost_56 rfl (lv_at hl 0 rfl) ?_
    refine x_getr hx hb hw (cX0 hE) (own := RX11) (ref := RX11) (C := RX11) (T := TX11) (N := 14) hts hiX11 hown rfl 6 (by decide) hk60 (fun _ h9 => h9) rfl dX11_mixCost_57 ?_
    refine x_geti hx hb hw (cX29 hE) (own := RX11) (ref := RX3) (C := RX3) (T := TX3) (N := 7) hts hiX3 hown rfl 4 (by decide) hk297 (fun _ h9 => h9) rfl dX11_mixCost_60 ?_
    refine lv_iload_n hx hb dX11_mixCost_63 rfl (lv_at hl 3 rfl) ?_
    obtain ⟨r13, σ14, hcl, hf⟩ := xc2_f hf
    refine x_calli (va_runS (As := [.int r11, .int (σ12 29 4), .int a3]) (rest := []) ⟨hx, hb, hml, hown, hts⟩ (mX11_lowestTerm hE r11 (σ12 29 4) a3 σ12 r13 σ14 hcl H.size) (va_cwS 3 hts gX11_mixCost_X11_lowestTerm rfl rfl rfl (by decide +kernel) ⟨Nat.le_of_ble_eq_true rfl, Nat.le_of_ble_eq_true rfl⟩) (x_preS _ hw hA hG) rfl rfl hl.1 rfl (lv_room (Nat.le_of_ble_eq_true rfl)) dX11_mixCost_64 ⟨Nat.le_of_ble_eq_true rfl, Nat.le_of_ble_eq_true rfl⟩) hw hA (fun H locs hw => ?_)
    clear hcl
    exact x_tiret hx hb hr hlk hw hf (Nat.le_of_ble_eq_true rfl) (Nat.le_of_ble_eq_true rfl) dX11_mixCost_67
  have h26 : ∀ (a1 : Int32) (a2 : Int32) (a3 : Int32) (σ : xSt) (H : Heap) (locs : List Loc) (ls : Array Slot), xw E A s.heap s σ H locs → lv_has ls 4 [(0, .ref (E.a 0)), (1, .int a1), (2, .int a2), (3, .int a3)] → fX11_mixCost_c26 a1 a2 a3 σ = some (o1, o2) → W p l e rmX11_mixCost s m args below meth c H locs 0 0 (vx_MQ below (xQt E A o1 o2) (xXt E A o1 o2) args s 2 12 A) (F0 m 26 ls []) := by
    intro a1 a2 a3 σ H locs ls hw hl hf
    unfold fX11_mixCost_c26 at hf
    refine lv_iconst (v := 0) hx hb dX11_mixCost_26 (by decide) ?_
    exact h27 a1 a2 a3 0 σ _ _ _ hw (lv_sub hl [0, 1, 2, 3] rfl) hf
  refine lv_iload_n hx hb dX11_mixCost_0 rfl (lv_at hl 1 rfl) ?_
  refine lv_iconst (v := 0) hx hb dX11_mixCost_1 (by decide) ?_
  refine lv_sipush (v := 200) hx hb dX11_mixCost_2 (by decide) ?_
  obtain ⟨r1, σ2, hcl, hf⟩ := xc2_f hf
  refine x_calli (va_runS (As := [.int p0, .int 0, .int 200]) (rest := []) ⟨hx, hb, hml, hown, hts⟩ (mX11_isWithin hE p0 0 200 σ r1 σ2 hcl s.heap.size) (va_cwS 3 hts gX11_mixCost_X11_isWithin rfl rfl rfl (by decide +kernel) ⟨Nat.le_of_ble_eq_true rfl, Nat.le_of_ble_eq_true rfl⟩) (x_preS _ hw hA hG) rfl rfl hl.1 rfl (lv_room (Nat.le_of_ble_eq_true rfl)) dX11_mixCost_5 ⟨Nat.le_of_ble_eq_true rfl, Nat.le_of_ble_eq_true rfl⟩) hw hA (fun H locs hw => ?_)
  clear hcl
  refine lv_if_eq (tgt := 26) hx hb dX11_mixCost_8 (by decide) (fun c8 => ?_) (fun c8 => ?_)
  · replace hf := xif_pos c8 hf
    exact h26 p0 p1 p2 σ2 _ _ _ hw (lv_sub hl [0, 1, 2, 3] rfl) hf
  · replace hf := xif_neg c8 hf
    refine lv_iload_n hx hb dX11_mixCost_11 rfl (lv_at hl 2 rfl) ?_
    refine lv_iload_n hx hb dX11_mixCost_12 rfl (lv_at hl 1 rfl) ?_
    refine lv_sipush (v := 200) hx hb dX11_mixCost_13 (by decide) ?_
    obtain ⟨r3, σ4, hcl, hf⟩ := xc2_f hf
    refine x_calli (va_runS (As := [.int p1, .int p0, .int 200]) (rest := []) ⟨hx, hb, hml, hown, hts⟩ (mX11_isWithin hE p1 p0 200 σ2 r3 σ4 hcl H.size) (va_cwS 3 hts gX11_mixCost_X11_isWithin rfl rfl rfl (by decide +kernel) ⟨Nat.le_of_ble_eq_true rfl, Nat.le_of_ble_eq_true rfl⟩) (x_preS _ hw hA hG) rfl rfl hl.1 rfl (lv_room (Nat.le_of_ble_eq_true rfl)) dX11_mixCost_16 ⟨Nat.le_of_ble_eq_true rfl, Nat.le_of_ble_eq_true rfl⟩) hw hA (fun H locs hw => ?_)
    clear hcl
    refine lv_if_eq (tgt := 26) hx hb dX11_mixCost_19 (by decide) (fun c19 => ?_) (fun c19 => ?_)
    · replace hf := xif_pos c19 hf
      exact h26 p0 p1 p2 σ4 _ _ _ hw (lv_sub hl [0, 1, 2, 3] rfl) hf
    · replace hf := xif_neg c19 hf
      refine lv_iconst (v := 1) hx hb dX11_mixCost_22 (by decide) ?_
      refine lv_goto (tgt := 27) hx hb dX11_mixCost_23 (by decide) ?_
      exact h27 p0 p1 p2 1 σ4 _ _ _ hw (lv_sub hl [0, 1, 2, 3] rfl) hf

def fX11_mixShare_c36 (a1 : Int32) (a2 : Int32) (a3 : Int32) (a4 : Int32) (t0 : Int32) (σ : xSt) : Option (xO × xSt) := (xct (fX11_needArgument t0 σ) fun r9 σ10 => (xc2 (fX3_findMix a1 a2 σ10) fun r11 σ12 => (xct (fX11_needElement r11 σ12) fun r13 σ14 => (xr σ14 33 4 a3 fun v15 => (xc2 (fX11_lowestTerm v15 (σ14 29 4) a4 σ14) fun r16 σ17 => some ((.inl r16 : xO), σ17))))))
def fX11_mixShare_c35 (a1 : Int32) (a2 : Int32) (a3 : Int32) (a4 : Int32) (σ : xSt) : Option (xO × xSt) := fX11_mixShare_c36 a1 a2 a3 a4 0 σ
def fX11_mixShare (p0 : Int32) (p1 : Int32) (p2 : Int32) (p3 : Int32) (σ : xSt) : Option (xO × xSt) := (xc2 (fX11_isWithin p2 0 3 σ) fun r1 σ2 => (xct (fX11_needIndex r1 σ2) fun r3 σ4 => (xc2 (fX11_isWithin p0 0 200 σ4) fun r5 σ6 => (if r5 = 0 then fX11_mixShare_c35 p0 p1 p2 p3 σ6 else (xc2 (fX11_isWithin p1 p0 200 σ6) fun r7 σ8 => (if r7 = 0 then fX11_mixShare_c35 p0 p1 p2 p3 σ8 else fX11_mixShare_c36 p0 p1 p2 p3 1 σ8))))))
abbrev rmX11_mixShare : Room := { frames := 7, cells := 3, slots := 18, locals := 167 }
set_option maxRecDepth 100000 in
set_option maxHeartbeats 4000000 in
theorem mX11_mixShare {l : Launch} (hl0 : l.stackTraces = false) {E : xE} (hE : E.sh = shX) (p0 : Int32) (p1 : Int32) (p2 : Int32) (p3 : Int32) (σ : xSt) (o1 : xO) (o2 : xSt) (hf : fX11_mixShare p0 p1 p2 p3 σ = some (o1, o2)) : xMt l yX11_mixShare wsX11_mixShare rmX11_mixShare E [.ref (E.a 0), .int p0, .int p1, .int p2, .int p3] σ o1 o2 3 := by
  unfold fX11_mixShare at hf
  refine xMt_of (cc := cX11_mixShare) (maxL := 5) (ret := (some .int)) (by decide) rfl (Nat.le_of_ble_eq_true rfl) ?_
  intro p e s m args below meth c A ls ⟨hx, hb, hr, hml, hown, hts, hlk⟩ hA hG hw hl hex
  have hown : s.vm.findClass RX11 = some m.cls := hown
  have hl : lv_has ls 5 [(0, .ref (E.a 0)), (1, .int p0), (2, .int p1), (3, .int p2), (4, .int p3)] := hl
  have hk60 := hts (.fieldLink RX11 60 "OvenRound" "flours" "LOvenRound$Flours;") (by decide +kernel)
  have hiX11 : ∀ w ∈ wsX110, w ∈ wsX11_mixShare := by decide +kernel
  have hk290 := hts (.fieldLink RX11 290 "OvenRound$Flours" "bestTops" "[I") (by decide +kernel)
  have hiX3 : ∀ w ∈ wsX30, w ∈ wsX11_mixShare := by decide +kernel
  have hk297 := hts (.fieldLink RX11 297 "OvenRound$Flours" "bestBottom" "I") (by decide +kernel)
  have h36 : ∀ (a1 : Int32) (a2 : Int32) (a3 : Int32) (a4 : Int32) (t0 : Int32) (σ : xSt) (H : Heap) (locs : List Loc) (ls : Array Slot), xw E A s.heap s σ H locs → lv_has ls 5 [(0, .ref (E.a 0)), (1, .int a1), (2, .int a2), (3, .int a3), (4, .int a4)] → fX11_mixShare_c36 a1 a2 a3 a4 t0 σ = some (o1, o2) → W p l e rmX11_mixShare s m args below meth c H locs 1 6 (vx_MQ below (xQt E A o1 o2) (xXt E A o1 o2) args s 3 18 A) (F0 m 36 ls [.int t0]) := by
    intro a1 a2 a3 a4 t0 σ H locs ls hw hl hf
    unfold fX11_mixShare_c36 at hf
    rcases xct_e hf with ⟨k36, σ10, hcl, hf⟩ | ⟨r9, σ10, hcl, hf⟩
    · refine x_tcallv (vx_runS (As := [.int t0]) (rest := []) ⟨hx, hb, hml, hown, hts⟩ (mX11_needArgument hl0 t0 σ (.inr k36) σ10 hcl H.size) (va_cwS 1 hts gX11_mixShare_X11_needArgument rfl rfl rfl (by decide +kernel) ⟨Nat.le_of_ble_eq_true rfl, Nat.le_of_ble_eq_true rfl⟩) (x_preS _ hw hA hG) rfl rfl hl.1 rfl (lv_room (Nat.le_of_ble_eq_true rfl)) dX11_mixShare_36 ⟨Nat.le_of_ble_eq_true rfl, Nat.le_of_ble_eq_true rfl⟩) hw hA (fun q9 ce H locs h1 h2 h3 hw => ?_) (fun H locs h1 hw => nomatch h1)
      exact x_tout hlk hex h1 h2 h3 hw hf (Nat.le_of_ble_eq_true rfl) (Nat.le_of_ble_eq_true rfl)
    refine x_tcallv (vx_runS (As := [.int t0]) (rest := []) ⟨hx, hb, hml, hown, hts⟩ (mX11_needArgument hl0 t0 σ (.inl r9) σ10 hcl H.size) (va_cwS 1 hts gX11_mixShare_X11_needArgument rfl rfl rfl (by decide +kernel) ⟨Nat.le_of_ble_eq_true rfl, Nat.le_of_ble_eq_true rfl⟩) (x_preS _ hw hA hG) rfl rfl hl.1 rfl (lv_room (Nat.le_of_ble_eq_true rfl)) dX11_mixShare_36 ⟨Nat.le_of_ble_eq_true rfl, Nat.le_of_ble_eq_true rfl⟩) hw hA (fun q9 ce H locs h1 h2 h3 hw => by obtain ⟨_, h9, _⟩ := h3; cases h9) (fun H locs h1 hw => ?_)
    clear hcl h1
    refine lv_aload_n hx hb dX11_mixShare_39 rfl (lv_at hl 0 rfl) ?_
    refine x_getr hx hb hw (cX0 hE) (own := RX11) (ref := RX11) (C := RX11) (T := TX11) (N := 14) hts hiX11 hown rfl 6 (by decide) hk60 (fun _ h9 => h9) rfl dX11_mixShare_40 ?_
    refine lv_iload_n hx hb dX11_mixShare_43 rfl (lv_at hl 1 rfl) ?_
    refine lv_iload_n hx hb dX11_mixShare_44 rfl (lv_at hl 2 rfl) ?_
    obtain ⟨r11, σ12, hcl, hf⟩ := xc2_f hf
    refine x_calli (va_runV (As := [.int a1, .int a2]) (rest := []) ⟨hx, hb, hml, hown, hts⟩ (mX3_findMix hE a1 a2 σ10 r11 σ12 hcl H.size) (cwV 2 hts gX11_mixShare_X3_findMix rfl rfl rfl (by decide +kernel) ⟨Nat.le_of_ble_eq_true rfl, Nat.le_of_ble_eq_true rfl⟩) (x_preV _ hw hA hG (cX29 hE) rfl) rfl rfl hl.1 rfl (lv_room (Nat.le_of_ble_eq_true rfl)) dX11_mixShare_45 ⟨Nat.le_of_ble_eq_true rfl, Nat.le_of_ble_eq_true rfl⟩) hw hA (fun H locs hw => ?_)
    clear hcl
    rcases xct_e hf with ⟨k48, σ14, hcl, hf⟩ | ⟨r13, σ14, hcl, hf⟩
    · refine x_tcallv (vx_runS (As := [.int r11]) (rest := []) ⟨hx, hb, hml, hown, hts⟩ (mX11_needElement hl0 r11 σ12 (.inr k48) σ14 hcl H.size) (va_cwS 1 hts gX11_mixShare_X11_needElement rfl rfl rfl (by decide +kernel) ⟨Nat.le_of_ble_eq_true rfl, Nat.le_of_ble_eq_true rfl⟩) (x_preS _ hw hA hG) rfl rfl hl.1 rfl (lv_room (Nat.le_of_ble_eq_true rfl)) dX11_mixShare_48 ⟨Nat.le_of_ble_eq_true rfl, Nat.le_of_ble_eq_true rfl⟩) hw hA (fun q9 ce H locs h1 h2 h3 hw => ?_) (fun H locs h1 hw => nomatch h1)
      exact x_tout hlk hex h1 h2 h3 hw hf (Nat.le_of_ble_eq_true rfl) (Nat.le_of_ble_eq_true rfl)
    refine x_tcallv (vx_runS (As := [.int r11]) (rest := []) ⟨hx, hb, hml, hown, hts⟩ (mX11_needElement hl0 r11 σ12 (.inl r13) σ14 hcl H.size) (va_cwS 1 hts gX11_mixShare_X11_needElement rfl rfl rfl (by decide +kernel) ⟨Nat.le_of_ble_eq_true rfl, Nat.le_of_ble_eq_true rfl⟩) (x_preS _ hw hA hG) rfl rfl hl.1 rfl (lv_room (Nat.le_of_ble_eq_true rfl)) dX11_mixShare_48 ⟨Nat.le_of_ble_eq_true rfl, Nat.le_of_ble_eq_true rfl⟩) hw hA (fun q9 ce H locs h1 h2 h3 hw => by obtain ⟨_, h9, _⟩ := h3; cases h9) (fun H locs h1 hw => ?_)
    clear hcl h1
    refine lv_aload_n hx hb dX11_mixShare_51 rfl (lv_at hl 0 rfl) ?_
    refine x_getr hx hb hw (cX0 hE) (own := RX11) (ref := RX11) (C := RX11) (T := TX11) (N := 14) hts hiX11 hown rfl 6 (by decide) hk60 (fun _ h9 => h9) rfl dX11_mixShare_52 ?_
    refine x_getr hx hb hw (cX29 hE) (own := RX11) (ref := RX3) (C := RX3) (T := TX3) (N := 7) hts hiX3 hown rfl 3 (by decide) hk290 (fun _ h9 => h9) rfl dX11_mixShare_55 ?_
    refine lv_iload_n hx hb dX11_mixShare_58 rfl (lv_at hl 3 rfl) ?_
    obtain ⟨hin, hf⟩ := xr_f hf
    refine x_iald hx hb hw (cX33 hE) hin dX11_mixShare_59 ?_
    refine lv_topi (fun v15 ex => ?_)
    replace hf := hf v15 ex
    clear ex hin
    refine lv_aload_n hx hb dX11_mixShare_60 rfl (lv_at hl 0 rfl) ?_
    refine x_getr hx hb hw (cX0 hE) (own := RX11) (ref := RX11) (C := RX11) (T := TX11) (N := 14) hts hiX11 hown rfl 6 (by decide) hk60 (fun _ h9 => h9) rfl dX11_mixShare_61 ?_
    refine x_geti hx hb hw (cX29 hE) (own := RX11) (ref := RX3) (C := RX3) (T := TX3) (N := 7) hts hiX3 hown rfl 4 (by decide) hk297 (fun _ h9 => h9) rfl dX11_mixShare_64 ?_
    refine lv_iload hx hb dX11_mixShare_67 (lv_at hl 4 rfl) ?_
    obtain ⟨r16, σ17, hcl, hf⟩ := xc2_f hf
    refine x_calli (va_runS (As := [.int v15, .int (σ14 29 4), .int a4]) (rest := []) ⟨hx, hb, hml, hown, hts⟩ (mX11_lowestTerm hE v15 (σ14 29 4) a4 σ14 r16 σ17 hcl H.size) (va_cwS 3 hts gX11_mixShare_X11_lowestTerm rfl rfl rfl (by decide +kernel) ⟨Nat.le_of_ble_eq_true rfl, Nat.le_of_ble_eq_true rfl⟩) (x_preS _ hw hA hG) rfl rfl hl.1 rfl (lv_room (Nat.le_of_ble_eq_true rfl)) dX11_mixShare_69 ⟨Nat.le_of_ble_eq_true rfl, Nat.le_of_ble_eq_true rfl⟩) hw hA (fun H locs hw => ?_)
    clear hcl
    exact x_tiret hx hb hr hlk hw hf (Nat.le_of_ble_eq_true rfl) (Nat.le_of_ble_eq_true rfl) dX11_mixShare_72
  have h35 : ∀ (a1 : Int32) (a2 : Int32) (a3 : Int32) (a4 : Int32) (σ : xSt) (H : Heap) (locs : List Loc) (ls : Array Slot), xw E A s.heap s σ H locs → lv_has ls 5 [(0, .ref (E.a 0)), (1, .int a1), (2, .int a2), (3, .int a3), (4, .int a4)] → fX11_mixShare_c35 a1 a2 a3 a4 σ = some (o1, o2) → W p l e rmX11_mixShare s m args below meth c H locs 1 6 (vx_MQ below (xQt E A o1 o2) (xXt E A o1 o2) args s 3 18 A) (F0 m 35 ls []) := by
    intro a1 a2 a3 a4 σ H locs ls hw hl hf
    unfold fX11_mixShare_c35 at hf
    refine lv_iconst (v := 0) hx hb dX11_mixShare_35 (by decide) ?_
    exact h36 a1 a2 a3 a4 0 σ _ _ _ hw (lv_sub hl [0, 1, 2, 3, 4] rfl) hf
  refine lv_iload_n hx hb dX11_mixShare_0 rfl (lv_at hl 3 rfl) ?_
  refine lv_iconst (v := 0) hx hb dX11_mixShare_1 (by decide) ?_
  refine lv_iconst (v := 3) hx hb dX11_mixShare_2 (by decide) ?_
  obtain ⟨r1, σ2, hcl, hf⟩ := xc2_f hf
  refine x_calli (va_runS (As := [.int p2, .int 0, .int 3]) (rest := []) ⟨hx, hb, hml, hown, hts⟩ (mX11_isWithin hE p2 0 3 σ r1 σ2 hcl s.heap.size) (va_cwS 3 hts gX11_mixShare_X11_isWithin rfl rfl rfl (by decide +kernel) ⟨Nat.le_of_ble_eq_true rfl, Nat.le_of_ble_eq_true rfl⟩) (x_preS _ hw hA hG) rfl rfl hl.1 rfl (lv_room (Nat.le_of_ble_eq_true rfl)) dX11_mixShare_3 ⟨Nat.le_of_ble_eq_true rfl, Nat.le_of_ble_eq_true rfl⟩) hw hA (fun H locs hw => ?_)
  clear hcl
  rcases xct_e hf with ⟨k6, σ4, hcl, hf⟩ | ⟨r3, σ4, hcl, hf⟩
  · refine x_tcallv (vx_runS (As := [.int r1]) (rest := []) ⟨hx, hb, hml, hown, hts⟩ (mX11_needIndex hl0 r1 σ2 (.inr k6) σ4 hcl H.size) (va_cwS 1 hts gX11_mixShare_X11_needIndex rfl rfl rfl (by decide +kernel) ⟨Nat.le_of_ble_eq_true rfl, Nat.le_of_ble_eq_true rfl⟩) (x_preS _ hw hA hG) rfl rfl hl.1 rfl (lv_room (Nat.le_of_ble_eq_true rfl)) dX11_mixShare_6 ⟨Nat.le_of_ble_eq_true rfl, Nat.le_of_ble_eq_true rfl⟩) hw hA (fun q9 ce H locs h1 h2 h3 hw => ?_) (fun H locs h1 hw => nomatch h1)
    exact x_tout hlk hex h1 h2 h3 hw hf (Nat.le_of_ble_eq_true rfl) (Nat.le_of_ble_eq_true rfl)
  refine x_tcallv (vx_runS (As := [.int r1]) (rest := []) ⟨hx, hb, hml, hown, hts⟩ (mX11_needIndex hl0 r1 σ2 (.inl r3) σ4 hcl H.size) (va_cwS 1 hts gX11_mixShare_X11_needIndex rfl rfl rfl (by decide +kernel) ⟨Nat.le_of_ble_eq_true rfl, Nat.le_of_ble_eq_true rfl⟩) (x_preS _ hw hA hG) rfl rfl hl.1 rfl (lv_room (Nat.le_of_ble_eq_true rfl)) dX11_mixShare_6 ⟨Nat.le_of_ble_eq_true rfl, Nat.le_of_ble_eq_true rfl⟩) hw hA (fun q9 ce H locs h1 h2 h3 hw => by obtain ⟨_, h9, _⟩ := h3; cases h9) (fun H locs h1 hw => ?_)
  clear hcl h1
  refine lv_iload_n hx hb dX11_mixShare_9 rfl (lv_at hl 1 rfl) ?_
  refine lv_iconst (v := 0) hx hb dX11_mixShare_10 (by decide) ?_
  refine lv_sipush (v := 200) hx hb dX11_mixShare_11 (by decide) ?_
  obtain ⟨r5, σ6, hcl, hf⟩ := xc2_f hf
  refine x_calli (va_runS (As := [.int p0, .int 0, .int 200]) (rest := []) ⟨hx, hb, hml, hown, hts⟩ (mX11_isWithin hE p0 0 200 σ4 r5 σ6 hcl H.size) (va_cwS 3 hts gX11_mixShare_X11_isWithin rfl rfl rfl (by decide +kernel) ⟨Nat.le_of_ble_eq_true rfl, Nat.le_of_ble_eq_true rfl⟩) (x_preS _ hw hA hG) rfl rfl hl.1 rfl (lv_room (Nat.le_of_ble_eq_true rfl)) dX11_mixShare_14 ⟨Nat.le_of_ble_eq_true rfl, Nat.le_of_ble_eq_true rfl⟩) hw hA (fun H locs hw => ?_)
  clear hcl
  refine lv_if_eq (tgt := 35) hx hb dX11_mixShare_17 (by decide) (fun c17 => ?_) (fun c17 => ?_)
  · replace hf := xif_pos c17 hf
    exact h35 p0 p1 p2 p3 σ6 _ _ _ hw (lv_sub hl [0, 1, 2, 3, 4] rfl) hf
  · replace hf := xif_neg c17 hf
    refine lv_iload_n hx hb dX11_mixShare_20 rfl (lv_at hl 2 rfl) ?_
    refine lv_iload_n hx hb dX11_mixShare_21 rfl (lv_at hl 1 rfl) ?_
    refine lv_sipush (v := 200) hx hb dX11_mixShare_22 (by decide) ?_
    obtain ⟨r7, σ8, hcl, hf⟩ := xc2_f hf
    refine x_calli (va_runS (As := [.int p1, .int p0, .int 200]) (rest := []) ⟨hx, hb, hml, hown, hts⟩ (mX11_isWithin hE p1 p0 200 σ6 r7 σ8 hcl H.size) (va_cwS 3 hts gX11_mixShare_X11_isWithin rfl rfl rfl (by decide +kernel) ⟨Nat.le_of_ble_eq_true rfl, Nat.le_of_ble_eq_true rfl⟩) (x_preS _ hw hA hG) rfl rfl hl.1 rfl (lv_room (Nat.le_of_ble_eq_true rfl)) dX11_mixShare_25 ⟨Nat.le_of_ble_eq_true rfl, Nat.le_of_ble_eq_true rfl⟩) hw hA (fun H locs hw => ?_)
    clear hcl
    refine lv_if_eq (tgt := 35) hx hb dX11_mixShare_28 (by decide) (fun c28 => ?_) (fun c28 => ?_)
    · replace hf := xif_pos c28 hf
      exact h35 p0 p1 p2 p3 σ8 _ _ _ hw (lv_sub hl [0, 1, 2, 3, 4] rfl) hf
    · replace hf := xif_neg c28 hf
      refine lv_iconst (v := 1) hx hb dX11_mixShare_31 (by decide) ?_
      refine lv_goto (tgt := 36) hx hb dX11_mixShare_32 (by decide) ?_
      exact h36 p0 p1 p2 p3 1 σ8 _ _ _ hw (lv_sub hl [0, 1, 2, 3, 4] rfl) hf

def fX11_note_c34 (a1 : Int32) (a2 : Int32) (t0 : Int32) (σ : xSt) : Option (xO × xSt) := (xct (fX11_needState t0 σ) fun r8 σ9 => (xc (fX11_remember σ9) fun σ11 => (xr σ11 37 6 a1 fun v12 => (xs σ11 36 360 ((a1 * 60) + v12) a2 fun σ13 => (xr σ13 37 6 a1 fun v14 => (xs σ13 37 6 a1 (v14 + 1) fun σ15 => (xr σ15 37 6 a1 fun v16 => some ((.inl v16 : xO), σ15))))))))
def fX11_note (p0 : Int32) (p1 : Int32) (σ : xSt) : Option (xO × xSt) := (xct (fX11_needRecipe p0 σ) fun r1 σ2 => (xc2 (fX11_isWithin p1 0 99 σ2) fun r3 σ4 => (xct (fX11_needArgument r3 σ4) fun r5 σ6 => (xr σ6 37 6 p0 fun v7 => (if 60 ≤ v7 then fX11_note_c34 p0 p1 0 σ6 else fX11_note_c34 p0 p1 1 σ6)))))
abbrev rmX11_note : Room := { frames := 8, cells := 3, slots := 18, locals := 139 }
set_option maxRecDepth 100000 in
set_option maxHeartbeats 4000000 in
theorem mX11_note {l : Launch} (hl0 : l.stackTraces = false) {E : xE} (hE : E.sh = shX) (p0 : Int32) (p1 : Int32) (σ : xSt) (o1 : xO) (o2 : xSt) (hf : fX11_note p0 p1 σ = some (o1, o2)) : xMt l yX11_note wsX11_note rmX11_note E [.ref (E.a 0), .int p0, .int p1] σ o1 o2 3 := by
  unfold fX11_note at hf
  refine xMt_of (cc := cX11_note) (maxL := 3) (ret := (some .int)) (by decide) rfl (Nat.le_of_ble_eq_true rfl) ?_
  intro p e s m args below meth c A ls ⟨hx, hb, hr, hml, hown, hts, hlk⟩ hA hG hw hl hex
  have hown : s.vm.findClass RX11 = some m.cls := hown
  have hl : lv_has ls 3 [(0, .ref (E.a 0)), (1, .int p0), (2, .int p1)] := hl
  have hk65 := hts (.fieldLink RX11 65 "OvenRound" "notes" "LOvenRound$Notes;") (by decide +kernel)
  have hiX11 : ∀ w ∈ wsX110, w ∈ wsX11_note := by decide +kernel
  have hk304 := hts (.fieldLink RX11 304 "OvenRound$Notes" "count" "[I") (by decide +kernel)
  have hiX4 : ∀ w ∈ wsX40, w ∈ wsX11_note := by decide +kernel
  have hk306 := hts (.fieldLink RX11 306 "OvenRound$Notes" "wanted" "[I") (by decide +kernel)
  have h34 : ∀ (a1 : Int32) (a2 : Int32) (t0 : Int32) (σ : xSt) (H : Heap) (locs : List Loc) (ls : Array Slot), xw E A s.heap s σ H locs → lv_has ls 3 [(0, .ref (E.a 0)), (1, .int a1), (2, .int a2)] → fX11_note_c34 a1 a2 t0 σ = some (o1, o2) → W p l e rmX11_note s m args below meth c H locs 2 12 (vx_MQ below (xQt E A o1 o2) (xXt E A o1 o2) args s 3 18 A) (F0 m 34 ls [.int t0]) := by
    intro a1 a2 t0 σ H locs ls hw hl hf
    unfold fX11_note_c34 at hf
    rcases xct_e hf with ⟨k34, σ9, hcl, hf⟩ | ⟨r8, σ9, hcl, hf⟩
    · refine x_tcallv (vx_runS (As := [.int t0]) (rest := []) ⟨hx, hb, hml, hown, hts⟩ (mX11_needState hl0 t0 σ (.inr k34) σ9 hcl H.size) (va_cwS 1 hts gX11_note_X11_needState rfl rfl rfl (by decide +kernel) ⟨Nat.le_of_ble_eq_true rfl, Nat.le_of_ble_eq_true rfl⟩) (x_preS _ hw hA hG) rfl rfl hl.1 rfl (lv_room (Nat.le_of_ble_eq_true rfl)) dX11_note_34 ⟨Nat.le_of_ble_eq_true rfl, Nat.le_of_ble_eq_true rfl⟩) hw hA (fun q9 ce H locs h1 h2 h3 hw => ?_) (fun H locs h1 hw => nomatch h1)
      exact x_tout hlk hex h1 h2 h3 hw hf (Nat.le_of_ble_eq_true rfl) (Nat.le_of_ble_eq_true rfl)
    refine x_tcallv (vx_runS (As := [.int t0]) (rest := []) ⟨hx, hb, hml, hown, hts⟩ (mX11_needState hl0 t0 σ (.inl r8) σ9 hcl H.size) (va_cwS 1 hts gX11_note_X11_needState rfl rfl rfl (by decide +kernel) ⟨Nat.le_of_ble_eq_true rfl, Nat.le_of_ble_eq_true rfl⟩) (x_preS _ hw hA hG) rfl rfl hl.1 rfl (lv_room (Nat.le_of_ble_eq_true rfl)) dX11_note_34 ⟨Nat.le_of_ble_eq_true rfl, Nat.le_of_ble_eq_true rfl⟩) hw hA (fun q9 ce H locs h1 h2 h3 hw => by obtain ⟨_, h9, _⟩ := h3; cases h9) (fun H locs h1 hw => ?_)
    clear hcl h1
    refine lv_aload_n hx hb dX11_note_37 rfl (lv_at hl 0 rfl) ?_
    obtain ⟨σ11, hcl, hf⟩ := xc_e hf
    refine x_callv (va_runV (As := []) (rest := []) ⟨hx, hb, hml, hown, hts⟩ (mX11_remember hE σ9 σ11 hcl H.size) (cwV 0 hts gX11_note_X11_remember rfl rfl rfl (by decide +kernel) ⟨Nat.le_of_ble_eq_true rfl, Nat.le_of_ble_eq_true rfl⟩) (x_preV _ hw hA hG (cX0 hE) rfl) rfl rfl hl.1 rfl (lv_room (Nat.le_of_ble_eq_true rfl)) dX11_note_38 ⟨Nat.le_of_ble_eq_true rfl, Nat.le_of_ble_eq_true rfl⟩) hw hA (fun H locs hw => ?_)
    clear hcl
    refine lv_aload_n hx hb dX11_note_41 rfl (lv_at hl 0 rfl) ?_
    refine x_getr hx hb hw (cX0 hE) (own := RX11) (ref := RX11) (C := RX11) (T := TX11) (N := 14) hts hiX11 hown rfl 7 (by decide) hk65 (fun _ h9 => h9) rfl dX11_note_42 ?_
    refine x_getr hx hb hw (cX35 hE) (own := RX11) (ref := RX4) (C := RX4) (T := TX4) (N := 2) hts hiX4 hown rfl 0 (by decide) hk306 (fun _ h9 => h9) rfl dX11_note_45 ?_
    refine lv_iload_n hx hb dX11_note_48 rfl (lv_at hl 1 rfl) ?_
    refine lv_bipush (v := 60) hx hb dX11_note_49 (by decide) ?_
    refine lv_imul hx hb dX11_note_51 ?_
    refine lv_aload_n hx hb dX11_note_52 rfl (lv_at hl 0 rfl) ?_
    refine x_getr hx hb hw (cX0 hE) (own := RX11) (ref := RX11) (C := RX11) (T := TX11) (N := 14) hts hiX11 hown rfl 7 (by decide) hk65 (fun _ h9 => h9) rfl dX11_note_53 ?_
    refine x_getr hx hb hw (cX35 hE) (own := RX11) (ref := RX4) (C := RX4) (T := TX4) (N := 2) hts hiX4 hown rfl 1 (by decide) hk304 (fun _ h9 => h9) rfl dX11_note_56 ?_
    refine lv_iload_n hx hb dX11_note_59 rfl (lv_at hl 1 rfl) ?_
    obtain ⟨hin, hf⟩ := xr_f hf
    refine x_iald hx hb hw (cX37 hE) hin dX11_note_60 ?_
    refine lv_topi (fun v12 ex => ?_)
    replace hf := hf v12 ex
    clear ex hin
    refine lv_iadd hx hb dX11_note_61 ?_
    refine lv_iload_n hx hb dX11_note_62 rfl (lv_at hl 2 rfl) ?_
    obtain ⟨hin, hf⟩ := xs_f hf
    refine x_iast hx hb hw (cX36 hE) hin dX11_note_63 (fun σ13 H locs ex hw => ?_)
    replace hf := hf σ13 ex
    clear ex hin
    refine lv_aload_n hx hb dX11_note_64 rfl (lv_at hl 0 rfl) ?_
    refine x_getr hx hb hw (cX0 hE) (own := RX11) (ref := RX11) (C := RX11) (T := TX11) (N := 14) hts hiX11 hown rfl 7 (by decide) hk65 (fun _ h9 => h9) rfl dX11_note_65 ?_
    refine x_getr hx hb hw (cX35 hE) (own := RX11) (ref := RX4) (C := RX4) (T := TX4) (N := 2) hts hiX4 hown rfl 1 (by decide) hk304 (fun _ h9 => h9) rfl dX11_note_68 ?_
    refine lv_iload_n hx hb dX11_note_71 rfl (lv_at hl 1 rfl) ?_
    refine lv_dup2_11 hx hb dX11_note_72 rfl rfl ?_
    obtain ⟨hin, hf⟩ := xr_f hf
    refine x_iald hx hb hw (cX37 hE) hin dX11_note_73 ?_
    refine lv_topi (fun v14 ex => ?_)
    replace hf := hf v14 ex
    clear ex hin
    refine lv_iconst (v := 1) hx hb dX11_note_74 (by decide) ?_
    refine lv_iadd hx hb dX11_note_75 ?_
    obtain ⟨hin, hf⟩ := xs_f hf
    refine x_iast hx hb hw (cX37 hE) hin dX11_note_76 (fun σ15 H locs ex hw => ?_)
    replace hf := hf σ15 ex
    clear ex hin
    refine lv_aload_n hx hb dX11_note_77 rfl (lv_at hl 0 rfl) ?_
    refine x_getr hx hb hw (cX0 hE) (own := RX11) (ref := RX11) (C := RX11) (T := TX11) (N := 14) hts hiX11 hown rfl 7 (by decide) hk65 (fun _ h9 => h9) rfl dX11_note_78 ?_
    refine x_getr hx hb hw (cX35 hE) (own := RX11) (ref := RX4) (C := RX4) (T := TX4) (N := 2) hts hiX4 hown rfl 1 (by decide) hk304 (fun _ h9 => h9) rfl dX11_note_81 ?_
    refine lv_iload_n hx hb dX11_note_84 rfl (lv_at hl 1 rfl) ?_
    obtain ⟨hin, hf⟩ := xr_f hf
    refine x_iald hx hb hw (cX37 hE) hin dX11_note_85 ?_
    refine lv_topi (fun v16 ex => ?_)
    replace hf := hf v16 ex
    clear ex hin
    exact x_tiret hx hb hr hlk hw hf (Nat.le_of_ble_eq_true rfl) (Nat.le_of_ble_eq_true rfl) dX11_note_86
  refine lv_aload_n hx hb dX11_note_0 rfl (lv_at hl 0 rfl) ?_
  refine lv_iload_n hx hb dX11_note_1 rfl (lv_at hl 1 rfl) ?_
  rcases xct_e hf with ⟨k2, σ2, hcl, hf⟩ | ⟨r1, σ2, hcl, hf⟩
  · refine x_tcallv (vx_runV (As := [.int p0]) (rest := []) ⟨hx, hb, hml, hown, hts⟩ (mX11_needRecipe hl0 hE p0 σ (.inr k2) σ2 hcl s.heap.size) (cwV 1 hts gX11_note_X11_needRecipe rfl rfl rfl (by decide +kernel) ⟨Nat.le_of_ble_eq_true rfl, Nat.le_of_ble_eq_true rfl⟩) (x_preV _ hw hA hG (cX0 hE) rfl) rfl rfl hl.1 rfl (lv_room (Nat.le_of_ble_eq_true rfl)) dX11_note_2 ⟨Nat.le_of_ble_eq_true rfl, Nat.le_of_ble_eq_true rfl⟩) hw hA (fun q9 ce H locs h1 h2 h3 hw => ?_) (fun H locs h1 hw => nomatch h1)
    exact x_tout hlk hex h1 h2 h3 hw hf (Nat.le_of_ble_eq_true rfl) (Nat.le_of_ble_eq_true rfl)
  refine x_tcallv (vx_runV (As := [.int p0]) (rest := []) ⟨hx, hb, hml, hown, hts⟩ (mX11_needRecipe hl0 hE p0 σ (.inl r1) σ2 hcl s.heap.size) (cwV 1 hts gX11_note_X11_needRecipe rfl rfl rfl (by decide +kernel) ⟨Nat.le_of_ble_eq_true rfl, Nat.le_of_ble_eq_true rfl⟩) (x_preV _ hw hA hG (cX0 hE) rfl) rfl rfl hl.1 rfl (lv_room (Nat.le_of_ble_eq_true rfl)) dX11_note_2 ⟨Nat.le_of_ble_eq_true rfl, Nat.le_of_ble_eq_true rfl⟩) hw hA (fun q9 ce H locs h1 h2 h3 hw => by obtain ⟨_, h9, _⟩ := h3; cases h9) (fun H locs h1 hw => ?_)
  clear hcl h1
  refine lv_iload_n hx hb dX11_note_5 rfl (lv_at hl 2 rfl) ?_
  refine lv_iconst (v := 0) hx hb dX11_note_6 (by decide) ?_
  refine lv_bipush (v := 99) hx hb dX11_note_7 (by decide) ?_
  obtain ⟨r3, σ4, hcl, hf⟩ := xc2_f hf
  refine x_calli (va_runS (As := [.int p1, .int 0, .int 99]) (rest := []) ⟨hx, hb, hml, hown, hts⟩ (mX11_isWithin hE p1 0 99 σ2 r3 σ4 hcl H.size) (va_cwS 3 hts gX11_note_X11_isWithin rfl rfl rfl (by decide +kernel) ⟨Nat.le_of_ble_eq_true rfl, Nat.le_of_ble_eq_true rfl⟩) (x_preS _ hw hA hG) rfl rfl hl.1 rfl (lv_room (Nat.le_of_ble_eq_true rfl)) dX11_note_9 ⟨Nat.le_of_ble_eq_true rfl, Nat.le_of_ble_eq_true rfl⟩) hw hA (fun H locs hw => ?_)
  clear hcl
  rcases xct_e hf with ⟨k12, σ6, hcl, hf⟩ | ⟨r5, σ6, hcl, hf⟩
  · refine x_tcallv (vx_runS (As := [.int r3]) (rest := []) ⟨hx, hb, hml, hown, hts⟩ (mX11_needArgument hl0 r3 σ4 (.inr k12) σ6 hcl H.size) (va_cwS 1 hts gX11_note_X11_needArgument rfl rfl rfl (by decide +kernel) ⟨Nat.le_of_ble_eq_true rfl, Nat.le_of_ble_eq_true rfl⟩) (x_preS _ hw hA hG) rfl rfl hl.1 rfl (lv_room (Nat.le_of_ble_eq_true rfl)) dX11_note_12 ⟨Nat.le_of_ble_eq_true rfl, Nat.le_of_ble_eq_true rfl⟩) hw hA (fun q9 ce H locs h1 h2 h3 hw => ?_) (fun H locs h1 hw => nomatch h1)
    exact x_tout hlk hex h1 h2 h3 hw hf (Nat.le_of_ble_eq_true rfl) (Nat.le_of_ble_eq_true rfl)
  refine x_tcallv (vx_runS (As := [.int r3]) (rest := []) ⟨hx, hb, hml, hown, hts⟩ (mX11_needArgument hl0 r3 σ4 (.inl r5) σ6 hcl H.size) (va_cwS 1 hts gX11_note_X11_needArgument rfl rfl rfl (by decide +kernel) ⟨Nat.le_of_ble_eq_true rfl, Nat.le_of_ble_eq_true rfl⟩) (x_preS _ hw hA hG) rfl rfl hl.1 rfl (lv_room (Nat.le_of_ble_eq_true rfl)) dX11_note_12 ⟨Nat.le_of_ble_eq_true rfl, Nat.le_of_ble_eq_true rfl⟩) hw hA (fun q9 ce H locs h1 h2 h3 hw => by obtain ⟨_, h9, _⟩ := h3; cases h9) (fun H locs h1 hw => ?_)
  clear hcl h1
  refine lv_aload_n hx hb dX11_note_15 rfl (lv_at hl 0 rfl) ?_
  refine x_getr hx hb hw (cX0 hE) (own := RX11) (ref := RX11) (C := RX11) (T := TX11) (N := 14) hts hiX11 hown rfl 7 (by decide) hk65 (fun _ h9 => h9) rfl dX11_note_16 ?_
  refine x_getr hx hb hw (cX35 hE) (own := RX11) (ref := RX4) (C := RX4) (T := TX4) (N := 2) hts hiX4 hown rfl 1 (by decide) hk304 (fun _ h9 => h9) rfl dX11_note_19 ?_
  refine lv_iload_n hx hb dX11_note_22 rfl (lv_at hl 1 rfl) ?_
  obtain ⟨hin, hf⟩ := xr_f hf
  refine x_iald hx hb hw (cX37 hE) hin dX11_note_23 ?_
  refine lv_topi (fun v7 ex => ?_)
  replace hf := hf v7 ex
  clear ex hin
  refine lv_bipush (v := 60) hx hb dX11_note_24 (by decide) ?_
  refine lv_icmp_ge (tgt := 33) hx hb dX11_note_26 (by decide) (fun c26 => ?_) (fun c26 => ?_)
  · replace hf := xif_pos c26 hf
    refine lv_iconst (v := 0) hx hb dX11_note_33 (by decide) ?_
    exact h34 p0 p1 0 σ6 _ _ _ hw (lv_sub hl [0, 1, 2] rfl) hf
  · replace hf := xif_neg c26 hf
    refine lv_iconst (v := 1) hx hb dX11_note_29 (by decide) ?_
    refine lv_goto (tgt := 34) hx hb dX11_note_30 (by decide) ?_
    exact h34 p0 p1 1 σ6 _ _ _ hw (lv_sub hl [0, 1, 2] rfl) hf

def fX11_bestNumber_c50 (a1 : Int32) (a2 : Int32) (a3 : Int32) (t0 : Int32) (σ : xSt) : Option (xO × xSt) := (xct (fX11_needElement t0 σ) fun r10 σ11 => (xc2 (fX4_bestFor a1 a2 a3 σ11) fun r12 σ13 => some ((.inl r12 : xO), σ13)))
def fX11_bestNumber_c30 (a1 : Int32) (a2 : Int32) (a3 : Int32) (t0 : Int32) (σ : xSt) : Option (xO × xSt) := (xct (fX11_needArgument t0 σ) fun r7 σ8 => (xr σ8 37 6 a1 fun v9 => (if v9 ≤ 0 then fX11_bestNumber_c50 a1 a2 a3 0 σ8 else fX11_bestNumber_c50 a1 a2 a3 1 σ8)))
def fX11_bestNumber_c29 (a1 : Int32) (a2 : Int32) (a3 : Int32) (σ : xSt) : Option (xO × xSt) := fX11_bestNumber_c30 a1 a2 a3 0 σ
def fX11_bestNumber (p0 : Int32) (p1 : Int32) (p2 : Int32) (σ : xSt) : Option (xO × xSt) := (xct (fX11_needRecipe p0 σ) fun r1 σ2 => (xc2 (fX11_isWithin p1 0 99 σ2) fun r3 σ4 => (if r3 = 0 then fX11_bestNumber_c29 p0 p1 p2 σ4 else (xc2 (fX11_isWithin p2 0 99 σ4) fun r5 σ6 => (if r5 = 0 then fX11_bestNumber_c29 p0 p1 p2 σ6 else fX11_bestNumber_c30 p0 p1 p2 1 σ6)))))
abbrev rmX11_bestNumber : Room := { frames := 8, cells := 3, slots := 18, locals := 131 }
set_option maxRecDepth 100000 in
set_option maxHeartbeats 4000000 in
theorem mX11_bestNumber {l : Launch} (hl0 : l.stackTraces = false) {E : xE} (hE : E.sh = shX) (p0 : Int32) (p1 : Int32) (p2 : Int32) (σ : xSt) (o1 : xO) (o2 : xSt) (hf : fX11_bestNumber p0 p1 p2 σ = some (o1, o2)) : xMt l yX11_bestNumber wsX11_bestNumber rmX11_bestNumber E [.ref (E.a 0), .int p0, .int p1, .int p2] σ o1 o2 3 := by
  unfold fX11_bestNumber at hf
  refine xMt_of (cc := cX11_bestNumber) (maxL := 4) (ret := (some .int)) (by decide) rfl (Nat.le_of_ble_eq_true rfl) ?_
  intro p e s m args below meth c A ls ⟨hx, hb, hr, hml, hown, hts, hlk⟩ hA hG hw hl hex
  have hown : s.vm.findClass RX11 = some m.cls := hown
  have hl : lv_has ls 4 [(0, .ref (E.a 0)), (1, .int p0), (2, .int p1), (3, .int p2)] := hl
  have hk65 := hts (.fieldLink RX11 65 "OvenRound" "notes" "LOvenRound$Notes;") (by decide +kernel)
  have hiX11 : ∀ w ∈ wsX110, w ∈ wsX11_bestNumber := by decide +kernel
  have hk304 := hts (.fieldLink RX11 304 "OvenRound$Notes" "count" "[I") (by decide +kernel)
  have hiX4 : ∀ w ∈ wsX40, w ∈ wsX11_bestNumber := by decide +kernel
  have h50 : ∀ (a1 : Int32) (a2 : Int32) (a3 : Int32) (t0 : Int32) (σ : xSt) (H : Heap) (locs : List Loc) (ls : Array Slot), xw E A s.heap s σ H locs → lv_has ls 4 [(0, .ref (E.a 0)), (1, .int a1), (2, .int a2), (3, .int a3)] → fX11_bestNumber_c50 a1 a2 a3 t0 σ = some (o1, o2) → W p l e rmX11_bestNumber s m args below meth c H locs 2 12 (vx_MQ below (xQt E A o1 o2) (xXt E A o1 o2) args s 3 18 A) (F0 m 50 ls [.int t0]) := by
    intro a1 a2 a3 t0 σ H locs ls hw hl hf
    unfold fX11_bestNumber_c50 at hf
    rcases xct_e hf with ⟨k50, σ11, hcl, hf⟩ | ⟨r10, σ11, hcl, hf⟩
    · refine x_tcallv (vx_runS (As := [.int t0]) (rest := []) ⟨hx, hb, hml, hown, hts⟩ (mX11_needElement hl0 t0 σ (.inr k50) σ11 hcl H.size) (va_cwS 1 hts gX11_bestNumber_X11_needElement rfl rfl rfl (by decide +kernel) ⟨Nat.le_of_ble_eq_true rfl, Nat.le_of_ble_eq_true rfl⟩) (x_preS _ hw hA hG) rfl rfl hl.1 rfl (lv_room (Nat.le_of_ble_eq_true rfl)) dX11_bestNumber_50 ⟨Nat.le_of_ble_eq_true rfl, Nat.le_of_ble_eq_true rfl⟩) hw hA (fun q9 ce H locs h1 h2 h3 hw => ?_) (fun H locs h1 hw => nomatch h1)
      exact x_tout hlk hex h1 h2 h3 hw hf (Nat.le_of_ble_eq_true rfl) (Nat.le_of_ble_eq_true rfl)
    refine x_tcallv (vx_runS (As := [.int t0]) (rest := []) ⟨hx, hb, hml, hown, hts⟩ (mX11_needElement hl0 t0 σ (.inl r10) σ11 hcl H.size) (va_cwS 1 hts gX11_bestNumber_X11_needElement rfl rfl rfl (by decide +kernel) ⟨Nat.le_of_ble_eq_true rfl, Nat.le_of_ble_eq_true rfl⟩) (x_preS _ hw hA hG) rfl rfl hl.1 rfl (lv_room (Nat.le_of_ble_eq_true rfl)) dX11_bestNumber_50 ⟨Nat.le_of_ble_eq_true rfl, Nat.le_of_ble_eq_true rfl⟩) hw hA (fun q9 ce H locs h1 h2 h3 hw => by obtain ⟨_, h9, _⟩ := h3; cases h9) (fun H locs h1 hw => ?_)
    clear hcl h1
    refine lv_aload_n hx hb dX11_bestNumber_53 rfl (lv_at hl 0 rfl) ?_
    refine x_getr hx hb hw (cX0 hE) (own := RX11) (ref := RX11) (C := RX11) (T := TX11) (N := 14) hts hiX11 hown rfl 7 (by decide) hk65 (fun _ h9 => h9) rfl dX11_bestNumber_54 ?_
    refine lv_iload_n hx hb dX11_bestNumber_57 rfl (lv_at hl 1 rfl) ?_
    refine lv_iload_n hx hb dX11_bestNumber_58 rfl (lv_at hl 2 rfl) ?_
    refine lv_iload_n hx hb dX11_bestNumber_59 rfl (lv_at hl 3 rfl) ?_
    obtain ⟨r12, σ13, hcl, hf⟩ := xc2_f hf
    refine x_calli (va_runV (As := [.int a1, .int a2, .int a3]) (rest := []) ⟨hx, hb, hml, hown, hts⟩ (mX4_bestFor hE a1 a2 a3 σ11 r12 σ13 hcl H.size) (cwV 3 hts gX11_bestNumber_X4_bestFor rfl rfl rfl (by decide +kernel) ⟨Nat.le_of_ble_eq_true rfl, Nat.le_of_ble_eq_true rfl⟩) (x_preV _ hw hA hG (cX35 hE) rfl) rfl rfl hl.1 rfl (lv_room (Nat.le_of_ble_eq_true rfl)) dX11_bestNumber_60 ⟨Nat.le_of_ble_eq_true rfl, Nat.le_of_ble_eq_true rfl⟩) hw hA (fun H locs hw => ?_)
    clear hcl
    exact x_tiret hx hb hr hlk hw hf (Nat.le_of_ble_eq_true rfl) (Nat.le_of_ble_eq_true rfl) dX11_bestNumber_63
  have h30 : ∀ (a1 : Int32) (a2 : Int32) (a3 : Int32) (t0 : Int32) (σ : xSt) (H : Heap) (locs : List Loc) (ls : Array Slot), xw E A s.heap s σ H locs → lv_has ls 4 [(0, .ref (E.a 0)), (1, .int a1), (2, .int a2), (3, .int a3)] → fX11_bestNumber_c30 a1 a2 a3 t0 σ = some (o1, o2) → W p l e rmX11_bestNumber s m args below meth c H locs 1 6 (vx_MQ below (xQt E A o1 o2) (xXt E A o1 o2) args s 3 18 A) (F0 m 30 ls [.int t0]) := by
    intro a1 a2 a3 t0 σ H locs ls hw hl hf
    unfold fX11_bestNumber_c30 at hf
    rcases xct_e hf with ⟨k30, σ8, hcl, hf⟩ | ⟨r7, σ8, hcl, hf⟩
    · refine x_tcallv (vx_runS (As := [.int t0]) (rest := []) ⟨hx, hb, hml, hown, hts⟩ (mX11_needArgument hl0 t0 σ (.inr k30) σ8 hcl H.size) (va_cwS 1 hts gX11_bestNumber_X11_needArgument rfl rfl rfl (by decide +kernel) ⟨Nat.le_of_ble_eq_true rfl, Nat.le_of_ble_eq_true rfl⟩) (x_preS _ hw hA hG) rfl rfl hl.1 rfl (lv_room (Nat.le_of_ble_eq_true rfl)) dX11_bestNumber_30 ⟨Nat.le_of_ble_eq_true rfl, Nat.le_of_ble_eq_true rfl⟩) hw hA (fun q9 ce H locs h1 h2 h3 hw => ?_) (fun H locs h1 hw => nomatch h1)
      exact x_tout hlk hex h1 h2 h3 hw hf (Nat.le_of_ble_eq_true rfl) (Nat.le_of_ble_eq_true rfl)
    refine x_tcallv (vx_runS (As := [.int t0]) (rest := []) ⟨hx, hb, hml, hown, hts⟩ (mX11_needArgument hl0 t0 σ (.inl r7) σ8 hcl H.size) (va_cwS 1 hts gX11_bestNumber_X11_needArgument rfl rfl rfl (by decide +kernel) ⟨Nat.le_of_ble_eq_true rfl, Nat.le_of_ble_eq_true rfl⟩) (x_preS _ hw hA hG) rfl rfl hl.1 rfl (lv_room (Nat.le_of_ble_eq_true rfl)) dX11_bestNumber_30 ⟨Nat.le_of_ble_eq_true rfl, Nat.le_of_ble_eq_true rfl⟩) hw hA (fun q9 ce H locs h1 h2 h3 hw => by obtain ⟨_, h9, _⟩ := h3; cases h9) (fun H locs h1 hw => ?_)
    clear hcl h1
    refine lv_aload_n hx hb dX11_bestNumber_33 rfl (lv_at hl 0 rfl) ?_
    refine x_getr hx hb hw (cX0 hE) (own := RX11) (ref := RX11) (C := RX11) (T := TX11) (N := 14) hts hiX11 hown rfl 7 (by decide) hk65 (fun _ h9 => h9) rfl dX11_bestNumber_34 ?_
    refine x_getr hx hb hw (cX35 hE) (own := RX11) (ref := RX4) (C := RX4) (T := TX4) (N := 2) hts hiX4 hown rfl 1 (by decide) hk304 (fun _ h9 => h9) rfl dX11_bestNumber_37 ?_
    refine lv_iload_n hx hb dX11_bestNumber_40 rfl (lv_at hl 1 rfl) ?_
    obtain ⟨hin, hf⟩ := xr_f hf
    refine x_iald hx hb hw (cX37 hE) hin dX11_bestNumber_41 ?_
    refine lv_topi (fun v9 ex => ?_)
    replace hf := hf v9 ex
    clear ex hin
    refine lv_if_le (tgt := 49) hx hb dX11_bestNumber_42 (by decide) (fun c42 => ?_) (fun c42 => ?_)
    · replace hf := xif_pos c42 hf
      refine lv_iconst (v := 0) hx hb dX11_bestNumber_49 (by decide) ?_
      exact h50 a1 a2 a3 0 σ8 _ _ _ hw (lv_sub hl [0, 1, 2, 3] rfl) hf
    · replace hf := xif_neg c42 hf
      refine lv_iconst (v := 1) hx hb dX11_bestNumber_45 (by decide) ?_
      refine lv_goto (tgt := 50) hx hb dX11_bestNumber_46 (by decide) ?_
      exact h50 a1 a2 a3 1 σ8 _ _ _ hw (lv_sub hl [0, 1, 2, 3] rfl) hf
  have h29 : ∀ (a1 : Int32) (a2 : Int32) (a3 : Int32) (σ : xSt) (H : Heap) (locs : List Loc) (ls : Array Slot), xw E A s.heap s σ H locs → lv_has ls 4 [(0, .ref (E.a 0)), (1, .int a1), (2, .int a2), (3, .int a3)] → fX11_bestNumber_c29 a1 a2 a3 σ = some (o1, o2) → W p l e rmX11_bestNumber s m args below meth c H locs 1 6 (vx_MQ below (xQt E A o1 o2) (xXt E A o1 o2) args s 3 18 A) (F0 m 29 ls []) := by
    intro a1 a2 a3 σ H locs ls hw hl hf
    unfold fX11_bestNumber_c29 at hf
    refine lv_iconst (v := 0) hx hb dX11_bestNumber_29 (by decide) ?_
    exact h30 a1 a2 a3 0 σ _ _ _ hw (lv_sub hl [0, 1, 2, 3] rfl) hf
  refine lv_aload_n hx hb dX11_bestNumber_0 rfl (lv_at hl 0 rfl) ?_
  refine lv_iload_n hx hb dX11_bestNumber_1 rfl (lv_at hl 1 rfl) ?_
  rcases xct_e hf with ⟨k2, σ2, hcl, hf⟩ | ⟨r1, σ2, hcl, hf⟩
  · refine x_tcallv (vx_runV (As := [.int p0]) (rest := []) ⟨hx, hb, hml, hown, hts⟩ (mX11_needRecipe hl0 hE p0 σ (.inr k2) σ2 hcl s.heap.size) (cwV 1 hts gX11_bestNumber_X11_needRecipe rfl rfl rfl (by decide +kernel) ⟨Nat.le_of_ble_eq_true rfl, Nat.le_of_ble_eq_true rfl⟩) (x_preV _ hw hA hG (cX0 hE) rfl) rfl rfl hl.1 rfl (lv_room (Nat.le_of_ble_eq_true rfl)) dX11_bestNumber_2 ⟨Nat.le_of_ble_eq_true rfl, Nat.le_of_ble_eq_true rfl⟩) hw hA (fun q9 ce H locs h1 h2 h3 hw => ?_) (fun H locs h1 hw => nomatch h1)
    exact x_tout hlk hex h1 h2 h3 hw hf (Nat.le_of_ble_eq_true rfl) (Nat.le_of_ble_eq_true rfl)
  refine x_tcallv (vx_runV (As := [.int p0]) (rest := []) ⟨hx, hb, hml, hown, hts⟩ (mX11_needRecipe hl0 hE p0 σ (.inl r1) σ2 hcl s.heap.size) (cwV 1 hts gX11_bestNumber_X11_needRecipe rfl rfl rfl (by decide +kernel) ⟨Nat.le_of_ble_eq_true rfl, Nat.le_of_ble_eq_true rfl⟩) (x_preV _ hw hA hG (cX0 hE) rfl) rfl rfl hl.1 rfl (lv_room (Nat.le_of_ble_eq_true rfl)) dX11_bestNumber_2 ⟨Nat.le_of_ble_eq_true rfl, Nat.le_of_ble_eq_true rfl⟩) hw hA (fun q9 ce H locs h1 h2 h3 hw => by obtain ⟨_, h9, _⟩ := h3; cases h9) (fun H locs h1 hw => ?_)
  clear hcl h1
  refine lv_iload_n hx hb dX11_bestNumber_5 rfl (lv_at hl 2 rfl) ?_
  refine lv_iconst (v := 0) hx hb dX11_bestNumber_6 (by decide) ?_
  refine lv_bipush (v := 99) hx hb dX11_bestNumber_7 (by decide) ?_
  obtain ⟨r3, σ4, hcl, hf⟩ := xc2_f hf
  refine x_calli (va_runS (As := [.int p1, .int 0, .int 99]) (rest := []) ⟨hx, hb, hml, hown, hts⟩ (mX11_isWithin hE p1 0 99 σ2 r3 σ4 hcl H.size) (va_cwS 3 hts gX11_bestNumber_X11_isWithin rfl rfl rfl (by decide +kernel) ⟨Nat.le_of_ble_eq_true rfl, Nat.le_of_ble_eq_true rfl⟩) (x_preS _ hw hA hG) rfl rfl hl.1 rfl (lv_room (Nat.le_of_ble_eq_true rfl)) dX11_bestNumber_9 ⟨Nat.le_of_ble_eq_true rfl, Nat.le_of_ble_eq_true rfl⟩) hw hA (fun H locs hw => ?_)
  clear hcl
  refine lv_if_eq (tgt := 29) hx hb dX11_bestNumber_12 (by decide) (fun c12 => ?_) (fun c12 => ?_)
  · replace hf := xif_pos c12 hf
    exact h29 p0 p1 p2 σ4 _ _ _ hw (lv_sub hl [0, 1, 2, 3] rfl) hf
  · replace hf := xif_neg c12 hf
    refine lv_iload_n hx hb dX11_bestNumber_15 rfl (lv_at hl 3 rfl) ?_
    refine lv_iconst (v := 0) hx hb dX11_bestNumber_16 (by decide) ?_
    refine lv_bipush (v := 99) hx hb dX11_bestNumber_17 (by decide) ?_
    obtain ⟨r5, σ6, hcl, hf⟩ := xc2_f hf
    refine x_calli (va_runS (As := [.int p2, .int 0, .int 99]) (rest := []) ⟨hx, hb, hml, hown, hts⟩ (mX11_isWithin hE p2 0 99 σ4 r5 σ6 hcl H.size) (va_cwS 3 hts gX11_bestNumber_X11_isWithin rfl rfl rfl (by decide +kernel) ⟨Nat.le_of_ble_eq_true rfl, Nat.le_of_ble_eq_true rfl⟩) (x_preS _ hw hA hG) rfl rfl hl.1 rfl (lv_room (Nat.le_of_ble_eq_true rfl)) dX11_bestNumber_19 ⟨Nat.le_of_ble_eq_true rfl, Nat.le_of_ble_eq_true rfl⟩) hw hA (fun H locs hw => ?_)
    clear hcl
    refine lv_if_eq (tgt := 29) hx hb dX11_bestNumber_22 (by decide) (fun c22 => ?_) (fun c22 => ?_)
    · replace hf := xif_pos c22 hf
      exact h29 p0 p1 p2 σ6 _ _ _ hw (lv_sub hl [0, 1, 2, 3] rfl) hf
    · replace hf := xif_neg c22 hf
      refine lv_iconst (v := 1) hx hb dX11_bestNumber_25 (by decide) ?_
      refine lv_goto (tgt := 30) hx hb dX11_bestNumber_26 (by decide) ?_
      exact h30 p0 p1 p2 1 σ6 _ _ _ hw (lv_sub hl [0, 1, 2, 3] rfl) hf

def fX11_loss_c41 (a1 : Int32) (a2 : Int32) (a3 : Int32) (a4 : Int32) (t0 : Int32) (σ : xSt) : Option (xO × xSt) := (xct (fX11_needArgument t0 σ) fun r9 σ10 => (xc2 (fX4_lossOf a1 a2 a3 a4 σ10) fun r11 σ12 => some ((.inl r11 : xO), σ12)))
def fX11_loss_c40 (a1 : Int32) (a2 : Int32) (a3 : Int32) (a4 : Int32) (σ : xSt) : Option (xO × xSt) := fX11_loss_c41 a1 a2 a3 a4 0 σ
def fX11_loss (p0 : Int32) (p1 : Int32) (p2 : Int32) (p3 : Int32) (σ : xSt) : Option (xO × xSt) := (xct (fX11_needRecipe p0 σ) fun r1 σ2 => (xc2 (fX11_isWithin p1 0 99 σ2) fun r3 σ4 => (if r3 = 0 then fX11_loss_c40 p0 p1 p2 p3 σ4 else (xc2 (fX11_isWithin p2 0 99 σ4) fun r5 σ6 => (if r5 = 0 then fX11_loss_c40 p0 p1 p2 p3 σ6 else (xc2 (fX11_isWithin p3 0 99 σ6) fun r7 σ8 => (if r7 = 0 then fX11_loss_c40 p0 p1 p2 p3 σ8 else fX11_loss_c41 p0 p1 p2 p3 1 σ8)))))))
abbrev rmX11_loss : Room := { frames := 8, cells := 2, slots := 12, locals := 131 }
set_option maxRecDepth 100000 in
set_option maxHeartbeats 4000000 in
theorem mX11_loss {l : Launch} (hl0 : l.stackTraces = false) {E : xE} (hE : E.sh = shX) (p0 : Int32) (p1 : Int32) (p2 : Int32) (p3 : Int32) (σ : xSt) (o1 : xO) (o2 : xSt) (hf : fX11_loss p0 p1 p2 p3 σ = some (o1, o2)) : xMt l yX11_loss wsX11_loss rmX11_loss E [.ref (E.a 0), .int p0, .int p1, .int p2, .int p3] σ o1 o2 2 := by
  unfold fX11_loss at hf
  refine xMt_of (cc := cX11_loss) (maxL := 5) (ret := (some .int)) (by decide) rfl (Nat.le_of_ble_eq_true rfl) ?_
  intro p e s m args below meth c A ls ⟨hx, hb, hr, hml, hown, hts, hlk⟩ hA hG hw hl hex
  have hown : s.vm.findClass RX11 = some m.cls := hown
  have hl : lv_has ls 5 [(0, .ref (E.a 0)), (1, .int p0), (2, .int p1), (3, .int p2), (4, .int p3)] := hl
  have hk65 := hts (.fieldLink RX11 65 "OvenRound" "notes" "LOvenRound$Notes;") (by decide +kernel)
  have hiX11 : ∀ w ∈ wsX110, w ∈ wsX11_loss := by decide +kernel
  have h41 : ∀ (a1 : Int32) (a2 : Int32) (a3 : Int32) (a4 : Int32) (t0 : Int32) (σ : xSt) (H : Heap) (locs : List Loc) (ls : Array Slot), xw E A s.heap s σ H locs → lv_has ls 5 [(0, .ref (E.a 0)), (1, .int a1), (2, .int a2), (3, .int a3), (4, .int a4)] → fX11_loss_c41 a1 a2 a3 a4 t0 σ = some (o1, o2) → W p l e rmX11_loss s m args below meth c H locs 1 6 (vx_MQ below (xQt E A o1 o2) (xXt E A o1 o2) args s 2 12 A) (F0 m 41 ls [.int t0]) := by
    intro a1 a2 a3 a4 t0 σ H locs ls hw hl hf
    unfold fX11_loss_c41 at hf
    rcases xct_e hf with ⟨k41, σ10, hcl, hf⟩ | ⟨r9, σ10, hcl, hf⟩
    · refine x_tcallv (vx_runS (As := [.int t0]) (rest := []) ⟨hx, hb, hml, hown, hts⟩ (mX11_needArgument hl0 t0 σ (.inr k41) σ10 hcl H.size) (va_cwS 1 hts gX11_loss_X11_needArgument rfl rfl rfl (by decide +kernel) ⟨Nat.le_of_ble_eq_true rfl, Nat.le_of_ble_eq_true rfl⟩) (x_preS _ hw hA hG) rfl rfl hl.1 rfl (lv_room (Nat.le_of_ble_eq_true rfl)) dX11_loss_41 ⟨Nat.le_of_ble_eq_true rfl, Nat.le_of_ble_eq_true rfl⟩) hw hA (fun q9 ce H locs h1 h2 h3 hw => ?_) (fun H locs h1 hw => nomatch h1)
      exact x_tout hlk hex h1 h2 h3 hw hf (Nat.le_of_ble_eq_true rfl) (Nat.le_of_ble_eq_true rfl)
    refine x_tcallv (vx_runS (As := [.int t0]) (rest := []) ⟨hx, hb, hml, hown, hts⟩ (mX11_needArgument hl0 t0 σ (.inl r9) σ10 hcl H.size) (va_cwS 1 hts gX11_loss_X11_needArgument rfl rfl rfl (by decide +kernel) ⟨Nat.le_of_ble_eq_true rfl, Nat.le_of_ble_eq_true rfl⟩) (x_preS _ hw hA hG) rfl rfl hl.1 rfl (lv_room (Nat.le_of_ble_eq_true rfl)) dX11_loss_41 ⟨Nat.le_of_ble_eq_true rfl, Nat.le_of_ble_eq_true rfl⟩) hw hA (fun q9 ce H locs h1 h2 h3 hw => by obtain ⟨_, h9, _⟩ := h3; cases h9) (fun H locs h1 hw => ?_)
    clear hcl h1
    refine lv_aload_n hx hb dX11_loss_44 rfl (lv_at hl 0 rfl) ?_
    refine x_getr hx hb hw (cX0 hE) (own := RX11) (ref := RX11) (C := RX11) (T := TX11) (N := 14) hts hiX11 hown rfl 7 (by decide) hk65 (fun _ h9 => h9) rfl dX11_loss_45 ?_
    refine lv_iload_n hx hb dX11_loss_48 rfl (lv_at hl 1 rfl) ?_
    refine lv_iload_n hx hb dX11_loss_49 rfl (lv_at hl 2 rfl) ?_
    refine lv_iload_n hx hb dX11_loss_50 rfl (lv_at hl 3 rfl) ?_
    refine lv_iload hx hb dX11_loss_51 (lv_at hl 4 rfl) ?_
    obtain ⟨r11, σ12, hcl, hf⟩ := xc2_f hf
    refine x_calli (va_runV (As := [.int a1, .int a2, .int a3, .int a4]) (rest := []) ⟨hx, hb, hml, hown, hts⟩ (mX4_lossOf hE a1 a2 a3 a4 σ10 r11 σ12 hcl H.size) (cwV 4 hts gX11_loss_X4_lossOf rfl rfl rfl (by decide +kernel) ⟨Nat.le_of_ble_eq_true rfl, Nat.le_of_ble_eq_true rfl⟩) (x_preV _ hw hA hG (cX35 hE) rfl) rfl rfl hl.1 rfl (lv_room (Nat.le_of_ble_eq_true rfl)) dX11_loss_53 ⟨Nat.le_of_ble_eq_true rfl, Nat.le_of_ble_eq_true rfl⟩) hw hA (fun H locs hw => ?_)
    clear hcl
    exact x_tiret hx hb hr hlk hw hf (Nat.le_of_ble_eq_true rfl) (Nat.le_of_ble_eq_true rfl) dX11_loss_56
  have h40 : ∀ (a1 : Int32) (a2 : Int32) (a3 : Int32) (a4 : Int32) (σ : xSt) (H : Heap) (locs : List Loc) (ls : Array Slot), xw E A s.heap s σ H locs → lv_has ls 5 [(0, .ref (E.a 0)), (1, .int a1), (2, .int a2), (3, .int a3), (4, .int a4)] → fX11_loss_c40 a1 a2 a3 a4 σ = some (o1, o2) → W p l e rmX11_loss s m args below meth c H locs 1 6 (vx_MQ below (xQt E A o1 o2) (xXt E A o1 o2) args s 2 12 A) (F0 m 40 ls []) := by
    intro a1 a2 a3 a4 σ H locs ls hw hl hf
    unfold fX11_loss_c40 at hf
    refine lv_iconst (v := 0) hx hb dX11_loss_40 (by decide) ?_
    exact h41 a1 a2 a3 a4 0 σ _ _ _ hw (lv_sub hl [0, 1, 2, 3, 4] rfl) hf
  refine lv_aload_n hx hb dX11_loss_0 rfl (lv_at hl 0 rfl) ?_
  refine lv_iload_n hx hb dX11_loss_1 rfl (lv_at hl 1 rfl) ?_
  rcases xct_e hf with ⟨k2, σ2, hcl, hf⟩ | ⟨r1, σ2, hcl, hf⟩
  · refine x_tcallv (vx_runV (As := [.int p0]) (rest := []) ⟨hx, hb, hml, hown, hts⟩ (mX11_needRecipe hl0 hE p0 σ (.inr k2) σ2 hcl s.heap.size) (cwV 1 hts gX11_loss_X11_needRecipe rfl rfl rfl (by decide +kernel) ⟨Nat.le_of_ble_eq_true rfl, Nat.le_of_ble_eq_true rfl⟩) (x_preV _ hw hA hG (cX0 hE) rfl) rfl rfl hl.1 rfl (lv_room (Nat.le_of_ble_eq_true rfl)) dX11_loss_2 ⟨Nat.le_of_ble_eq_true rfl, Nat.le_of_ble_eq_true rfl⟩) hw hA (fun q9 ce H locs h1 h2 h3 hw => ?_) (fun H locs h1 hw => nomatch h1)
    exact x_tout hlk hex h1 h2 h3 hw hf (Nat.le_of_ble_eq_true rfl) (Nat.le_of_ble_eq_true rfl)
  refine x_tcallv (vx_runV (As := [.int p0]) (rest := []) ⟨hx, hb, hml, hown, hts⟩ (mX11_needRecipe hl0 hE p0 σ (.inl r1) σ2 hcl s.heap.size) (cwV 1 hts gX11_loss_X11_needRecipe rfl rfl rfl (by decide +kernel) ⟨Nat.le_of_ble_eq_true rfl, Nat.le_of_ble_eq_true rfl⟩) (x_preV _ hw hA hG (cX0 hE) rfl) rfl rfl hl.1 rfl (lv_room (Nat.le_of_ble_eq_true rfl)) dX11_loss_2 ⟨Nat.le_of_ble_eq_true rfl, Nat.le_of_ble_eq_true rfl⟩) hw hA (fun q9 ce H locs h1 h2 h3 hw => by obtain ⟨_, h9, _⟩ := h3; cases h9) (fun H locs h1 hw => ?_)
  clear hcl h1
  refine lv_iload_n hx hb dX11_loss_5 rfl (lv_at hl 2 rfl) ?_
  refine lv_iconst (v := 0) hx hb dX11_loss_6 (by decide) ?_
  refine lv_bipush (v := 99) hx hb dX11_loss_7 (by decide) ?_
  obtain ⟨r3, σ4, hcl, hf⟩ := xc2_f hf
  refine x_calli (va_runS (As := [.int p1, .int 0, .int 99]) (rest := []) ⟨hx, hb, hml, hown, hts⟩ (mX11_isWithin hE p1 0 99 σ2 r3 σ4 hcl H.size) (va_cwS 3 hts gX11_loss_X11_isWithin rfl rfl rfl (by decide +kernel) ⟨Nat.le_of_ble_eq_true rfl, Nat.le_of_ble_eq_true rfl⟩) (x_preS _ hw hA hG) rfl rfl hl.1 rfl (lv_room (Nat.le_of_ble_eq_true rfl)) dX11_loss_9 ⟨Nat.le_of_ble_eq_true rfl, Nat.le_of_ble_eq_true rfl⟩) hw hA (fun H locs hw => ?_)
  clear hcl
  refine lv_if_eq (tgt := 40) hx hb dX11_loss_12 (by decide) (fun c12 => ?_) (fun c12 => ?_)
  · replace hf := xif_pos c12 hf
    exact h40 p0 p1 p2 p3 σ4 _ _ _ hw (lv_sub hl [0, 1, 2, 3, 4] rfl) hf
  · replace hf := xif_neg c12 hf
    refine lv_iload_n hx hb dX11_loss_15 rfl (lv_at hl 3 rfl) ?_
    refine lv_iconst (v := 0) hx hb dX11_loss_16 (by decide) ?_
    refine lv_bipush (v := 99) hx hb dX11_loss_17 (by decide) ?_
    obtain ⟨r5, σ6, hcl, hf⟩ := xc2_f hf
    refine x_calli (va_runS (As := [.int p2, .int 0, .int 99]) (rest := []) ⟨hx, hb, hml, hown, hts⟩ (mX11_isWithin hE p2 0 99 σ4 r5 σ6 hcl H.size) (va_cwS 3 hts gX11_loss_X11_isWithin rfl rfl rfl (by decide +kernel) ⟨Nat.le_of_ble_eq_true rfl, Nat.le_of_ble_eq_true rfl⟩) (x_preS _ hw hA hG) rfl rfl hl.1 rfl (lv_room (Nat.le_of_ble_eq_true rfl)) dX11_loss_19 ⟨Nat.le_of_ble_eq_true rfl, Nat.le_of_ble_eq_true rfl⟩) hw hA (fun H locs hw => ?_)
    clear hcl
    refine lv_if_eq (tgt := 40) hx hb dX11_loss_22 (by decide) (fun c22 => ?_) (fun c22 => ?_)
    · replace hf := xif_pos c22 hf
      exact h40 p0 p1 p2 p3 σ6 _ _ _ hw (lv_sub hl [0, 1, 2, 3, 4] rfl) hf
    · replace hf := xif_neg c22 hf
      refine lv_iload hx hb dX11_loss_25 (lv_at hl 4 rfl) ?_
      refine lv_iconst (v := 0) hx hb dX11_loss_27 (by decide) ?_
      refine lv_bipush (v := 99) hx hb dX11_loss_28 (by decide) ?_
      obtain ⟨r7, σ8, hcl, hf⟩ := xc2_f hf
      refine x_calli (va_runS (As := [.int p3, .int 0, .int 99]) (rest := []) ⟨hx, hb, hml, hown, hts⟩ (mX11_isWithin hE p3 0 99 σ6 r7 σ8 hcl H.size) (va_cwS 3 hts gX11_loss_X11_isWithin rfl rfl rfl (by decide +kernel) ⟨Nat.le_of_ble_eq_true rfl, Nat.le_of_ble_eq_true rfl⟩) (x_preS _ hw hA hG) rfl rfl hl.1 rfl (lv_room (Nat.le_of_ble_eq_true rfl)) dX11_loss_30 ⟨Nat.le_of_ble_eq_true rfl, Nat.le_of_ble_eq_true rfl⟩) hw hA (fun H locs hw => ?_)
      clear hcl
      refine lv_if_eq (tgt := 40) hx hb dX11_loss_33 (by decide) (fun c33 => ?_) (fun c33 => ?_)
      · replace hf := xif_pos c33 hf
        exact h40 p0 p1 p2 p3 σ8 _ _ _ hw (lv_sub hl [0, 1, 2, 3, 4] rfl) hf
      · replace hf := xif_neg c33 hf
        refine lv_iconst (v := 1) hx hb dX11_loss_36 (by decide) ?_
        refine lv_goto (tgt := 41) hx hb dX11_loss_37 (by decide) ?_
        exact h41 p0 p1 p2 p3 1 σ8 _ _ _ hw (lv_sub hl [0, 1, 2, 3, 4] rfl) hf

def fX11_addShop_c79 (a1 : Int32) (a2 : Int32) (a3 : Int32) (a4 : Int32) (a5 : Int32) (t0 : Int32) (σ : xSt) : Option (xO × xSt) := (xct (fX11_needState t0 σ) fun r13 σ14 => (xc (fX11_remember σ14) fun σ16 => (xl (σ16 38 5) fun v17 => (xs σ16 39 8 v17 a1 fun σ18 => (xs σ18 40 8 v17 a2 fun σ19 => (xs σ19 41 7 v17 a3 fun σ20 => (xs σ20 42 7 v17 a4 fun σ21 => (xs σ21 43 7 v17 a5 fun σ22 => (xp σ22 38 5 ((σ22 38 5) + 1) fun σ23 => some ((.inl v17 : xO), σ23))))))))))
def fX11_addShop_c59 (a1 : Int32) (a2 : Int32) (a3 : Int32) (a4 : Int32) (a5 : Int32) (t0 : Int32) (σ : xSt) : Option (xO × xSt) := (xct (fX11_needArgument t0 σ) fun r11 σ12 => (if 7 ≤ (σ12 38 5) then fX11_addShop_c79 a1 a2 a3 a4 a5 0 σ12 else fX11_addShop_c79 a1 a2 a3 a4 a5 1 σ12))
def fX11_addShop_c58 (a1 : Int32) (a2 : Int32) (a3 : Int32) (a4 : Int32) (a5 : Int32) (σ : xSt) : Option (xO × xSt) := fX11_addShop_c59 a1 a2 a3 a4 a5 0 σ
def fX11_addShop (p0 : Int32) (p1 : Int32) (p2 : Int32) (p3 : Int32) (p4 : Int32) (σ : xSt) : Option (xO × xSt) := (xc2 (fX11_isWithin p0 0 20 σ) fun r1 σ2 => (if r1 = 0 then fX11_addShop_c58 p0 p1 p2 p3 p4 σ2 else (xc2 (fX11_isWithin p1 0 20 σ2) fun r3 σ4 => (if r3 = 0 then fX11_addShop_c58 p0 p1 p2 p3 p4 σ4 else (xc2 (fX11_isWithin p2 0 600 σ4) fun r5 σ6 => (if r5 = 0 then fX11_addShop_c58 p0 p1 p2 p3 p4 σ6 else (xc2 (fX11_isWithin p3 p2 600 σ6) fun r7 σ8 => (if r7 = 0 then fX11_addShop_c58 p0 p1 p2 p3 p4 σ8 else (xc2 (fX11_isWithin p4 0 30 σ8) fun r9 σ10 => (if r9 = 0 then fX11_addShop_c58 p0 p1 p2 p3 p4 σ10 else fX11_addShop_c59 p0 p1 p2 p3 p4 1 σ10))))))))))
abbrev rmX11_addShop : Room := { frames := 7, cells := 2, slots := 12, locals := 139 }
set_option maxRecDepth 100000 in
set_option maxHeartbeats 4000000 in
theorem mX11_addShop {l : Launch} (hl0 : l.stackTraces = false) {E : xE} (hE : E.sh = shX) (p0 : Int32) (p1 : Int32) (p2 : Int32) (p3 : Int32) (p4 : Int32) (σ : xSt) (o1 : xO) (o2 : xSt) (hf : fX11_addShop p0 p1 p2 p3 p4 σ = some (o1, o2)) : xMt l yX11_addShop wsX11_addShop rmX11_addShop E [.ref (E.a 0), .int p0, .int p1, .int p2, .int p3, .int p4] σ o1 o2 2 := by
  unfold fX11_addShop at hf
  refine xMt_of (cc := cX11_addShop) (maxL := 7) (ret := (some .int)) (by decide) rfl (Nat.le_of_ble_eq_true rfl) ?_
  intro p e s m args below meth c A ls ⟨hx, hb, hr, hml, hown, hts, hlk⟩ hA hG hw hl hex
  have hown : s.vm.findClass RX11 = some m.cls := hown
  have hl : lv_has ls 7 [(0, .ref (E.a 0)), (1, .int p0), (2, .int p1), (3, .int p2), (4, .int p3), (5, .int p4)] := hl
  have hk70 := hts (.fieldLink RX11 70 "OvenRound" "cart" "LOvenRound$Cart;") (by decide +kernel)
  have hiX11 : ∀ w ∈ wsX110, w ∈ wsX11_addShop := by decide +kernel
  have hk316 := hts (.fieldLink RX11 316 "OvenRound$Cart" "count" "I") (by decide +kernel)
  have hiX1 : ∀ w ∈ wsX10, w ∈ wsX11_addShop := by decide +kernel
  have hk317 := hts (.fieldLink RX11 317 "OvenRound$Cart" "x" "[I") (by decide +kernel)
  have hk320 := hts (.fieldLink RX11 320 "OvenRound$Cart" "y" "[I") (by decide +kernel)
  have hk323 := hts (.fieldLink RX11 323 "OvenRound$Cart" "opening" "[I") (by decide +kernel)
  have hk326 := hts (.fieldLink RX11 326 "OvenRound$Cart" "closing" "[I") (by decide +kernel)
  have hk329 := hts (.fieldLink RX11 329 "OvenRound$Cart" "stay" "[I") (by decide +kernel)
  have h79 : ∀ (a1 : Int32) (a2 : Int32) (a3 : Int32) (a4 : Int32) (a5 : Int32) (t0 : Int32) (σ : xSt) (H : Heap) (locs : List Loc) (ls : Array Slot), xw E A s.heap s σ H locs → lv_has ls 7 [(0, .ref (E.a 0)), (1, .int a1), (2, .int a2), (3, .int a3), (4, .int a4), (5, .int a5)] → fX11_addShop_c79 a1 a2 a3 a4 a5 t0 σ = some (o1, o2) → W p l e rmX11_addShop s m args below meth c H locs 1 6 (vx_MQ below (xQt E A o1 o2) (xXt E A o1 o2) args s 2 12 A) (F0 m 79 ls [.int t0]) := by
    intro a1 a2 a3 a4 a5 t0 σ H locs ls hw hl hf
    unfold fX11_addShop_c79 at hf
    rcases xct_e hf with ⟨k79, σ14, hcl, hf⟩ | ⟨r13, σ14, hcl, hf⟩
    · refine x_tcallv (vx_runS (As := [.int t0]) (rest := []) ⟨hx, hb, hml, hown, hts⟩ (mX11_needState hl0 t0 σ (.inr k79) σ14 hcl H.size) (va_cwS 1 hts gX11_addShop_X11_needState rfl rfl rfl (by decide +kernel) ⟨Nat.le_of_ble_eq_true rfl, Nat.le_of_ble_eq_true rfl⟩) (x_preS _ hw hA hG) rfl rfl hl.1 rfl (lv_room (Nat.le_of_ble_eq_true rfl)) dX11_addShop_79 ⟨Nat.le_of_ble_eq_true rfl, Nat.le_of_ble_eq_true rfl⟩) hw hA (fun q9 ce H locs h1 h2 h3 hw => ?_) (fun H locs h1 hw => nomatch h1)
      exact x_tout hlk hex h1 h2 h3 hw hf (Nat.le_of_ble_eq_true rfl) (Nat.le_of_ble_eq_true rfl)
    refine x_tcallv (vx_runS (As := [.int t0]) (rest := []) ⟨hx, hb, hml, hown, hts⟩ (mX11_needState hl0 t0 σ (.inl r13) σ14 hcl H.size) (va_cwS 1 hts gX11_addShop_X11_needState rfl rfl rfl (by decide +kernel) ⟨Nat.le_of_ble_eq_true rfl, Nat.le_of_ble_eq_true rfl⟩) (x_preS _ hw hA hG) rfl rfl hl.1 rfl (lv_room (Nat.le_of_ble_eq_true rfl)) dX11_addShop_79 ⟨Nat.le_of_ble_eq_true rfl, Nat.le_of_ble_eq_true rfl⟩) hw hA (fun q9 ce H locs h1 h2 h3 hw => by obtain ⟨_, h9, _⟩ := h3; cases h9) (fun H locs h1 hw => ?_)
    clear hcl h1
    refine lv_aload_n hx hb dX11_addShop_82 rfl (lv_at hl 0 rfl) ?_
    obtain ⟨σ16, hcl, hf⟩ := xc_e hf
    refine x_callv (va_runV (As := []) (rest := []) ⟨hx, hb, hml, hown, hts⟩ (mX11_remember hE σ14 σ16 hcl H.size) (cwV 0 hts gX11_addShop_X11_remember rfl rfl rfl (by decide +kernel) ⟨Nat.le_of_ble_eq_true rfl, Nat.le_of_ble_eq_true rfl⟩) (x_preV _ hw hA hG (cX0 hE) rfl) rfl rfl hl.1 rfl (lv_room (Nat.le_of_ble_eq_true rfl)) dX11_addShop_83 ⟨Nat.le_of_ble_eq_true rfl, Nat.le_of_ble_eq_true rfl⟩) hw hA (fun H locs hw => ?_)
    clear hcl
    refine lv_aload_n hx hb dX11_addShop_86 rfl (lv_at hl 0 rfl) ?_
    refine x_getr hx hb hw (cX0 hE) (own := RX11) (ref := RX11) (C := RX11) (T := TX11) (N := 14) hts hiX11 hown rfl 8 (by decide) hk70 (fun _ h9 => h9) rfl dX11_addShop_87 ?_
    refine x_geti hx hb hw (cX38 hE) (own := RX11) (ref := RX1) (C := RX1) (T := TX1) (N := 9) hts hiX1 hown rfl 5 (by decide) hk316 (fun _ h9 => h9) rfl dX11_addShop_90 ?_
    refine lv_topi (fun v17 ex => ?_)
    replace hf := xl_f hf v17 ex
    clear ex
    refine lv_istore (lv' := [(6, .int v17), (0, .ref (E.a 0)), (1, .int a1), (2, .int a2), (3, .int a3), (4, .int a4), (5, .int a5)]) hx hb dX11_addShop_93 hl (by decide) rfl (fun ls hl => ?_)
    refine lv_aload_n hx hb dX11_addShop_95 rfl (lv_at hl 1 rfl) ?_
    refine x_getr hx hb hw (cX0 hE) (own := RX11) (ref := RX11) (C := RX11) (T := TX11) (N := 14) hts hiX11 hown rfl 8 (by decide) hk70 (fun _ h9 => h9) rfl dX11_addShop_96 ?_
    refine x_getr hx hb hw (cX38 hE) (own := RX11) (ref := RX1) (C := RX1) (T := TX1) (N := 9) hts hiX1 hown rfl 0 (by decide) hk317 (fun _ h9 => h9) rfl dX11_addShop_99 ?_
    refine lv_iload hx hb dX11_addShop_102 (lv_at hl 0 rfl) ?_
    refine lv_iload_n hx hb dX11_addShop_104 rfl (lv_at hl 2 rfl) ?_
    obtain ⟨hin, hf⟩ := xs_f hf
    refine x_iast hx hb hw (cX39 hE) hin dX11_addShop_105 (fun σ18 H locs ex hw => ?_)
    replace hf := hf σ18 ex
    clear ex hin
    refine lv_aload_n hx hb dX11_addShop_106 rfl (lv_at hl 1 rfl) ?_
    refine x_getr hx hb hw (cX0 hE) (own := RX11) (ref := RX11) (C := RX11) (T := TX11) (N := 14) hts hiX11 hown rfl 8 (by decide) hk70 (fun _ h9 => h9) rfl dX11_addShop_107 ?_
    refine x_getr hx hb hw (cX38 hE) (own := RX11) (ref := RX1) (C := RX1) (T := TX1) (N := 9) hts hiX1 hown rfl 1 (by decide) hk320 (fun _ h9 => h9) rfl dX11_addShop_110 ?_
    refine lv_iload hx hb dX11_addShop_113 (lv_at hl 0 rfl) ?_
    refine lv_iload_n hx hb dX11_addShop_115 rfl (lv_at hl 3 rfl) ?_
    obtain ⟨hin, hf⟩ := xs_f hf
    refine x_iast hx hb hw (cX40 hE) hin dX11_addShop_116 (fun σ19 H locs ex hw => ?_)
    replace hf := hf σ19 ex
    clear ex hin
    refine lv_aload_n hx hb dX11_addShop_117 rfl (lv_at hl 1 rfl) ?_
    refine x_getr hx hb hw (cX0 hE) (own := RX11) (ref := RX11) (C := RX11) (T := TX11) (N := 14) hts hiX11 hown rfl 8 (by decide) hk70 (fun _ h9 => h9) rfl dX11_addShop_118 ?_
    refine x_getr hx hb hw (cX38 hE) (own := RX11) (ref := RX1) (C := RX1) (T := TX1) (N := 9) hts hiX1 hown rfl 2 (by decide) hk323 (fun _ h9 => h9) rfl dX11_addShop_121 ?_
    refine lv_iload hx hb dX11_addShop_124 (lv_at hl 0 rfl) ?_
    refine lv_iload_n hx hb dX11_addShop_126 rfl (lv_at hl 4 rfl) ?_
    obtain ⟨hin, hf⟩ := xs_f hf
    refine x_iast hx hb hw (cX41 hE) hin dX11_addShop_127 (fun σ20 H locs ex hw => ?_)
    replace hf := hf σ20 ex
    clear ex hin
    refine lv_aload_n hx hb dX11_addShop_128 rfl (lv_at hl 1 rfl) ?_
    refine x_getr hx hb hw (cX0 hE) (own := RX11) (ref := RX11) (C := RX11) (T := TX11) (N := 14) hts hiX11 hown rfl 8 (by decide) hk70 (fun _ h9 => h9) rfl dX11_addShop_129 ?_
    refine x_getr hx hb hw (cX38 hE) (own := RX11) (ref := RX1) (C := RX1) (T := TX1) (N := 9) hts hiX1 hown rfl 3 (by decide) hk326 (fun _ h9 => h9) rfl dX11_addShop_132 ?_
    refine lv_iload hx hb dX11_addShop_135 (lv_at hl 0 rfl) ?_
    refine lv_iload hx hb dX11_addShop_137 (lv_at hl 5 rfl) ?_
    obtain ⟨hin, hf⟩ := xs_f hf
    refine x_iast hx hb hw (cX42 hE) hin dX11_addShop_139 (fun σ21 H locs ex hw => ?_)
    replace hf := hf σ21 ex
    clear ex hin
    refine lv_aload_n hx hb dX11_addShop_140 rfl (lv_at hl 1 rfl) ?_
    refine x_getr hx hb hw (cX0 hE) (own := RX11) (ref := RX11) (C := RX11) (T := TX11) (N := 14) hts hiX11 hown rfl 8 (by decide) hk70 (fun _ h9 => h9) rfl dX11_addShop_141 ?_
    refine x_getr hx hb hw (cX38 hE) (own := RX11) (ref := RX1) (C := RX1) (T := TX1) (N := 9) hts hiX1 hown rfl 4 (by decide) hk329 (fun _ h9 => h9) rfl dX11_addShop_144 ?_
    refine lv_iload hx hb dX11_addShop_147 (lv_at hl 0 rfl) ?_
    refine lv_iload hx hb dX11_addShop_149 (lv_at hl 6 rfl) ?_
    obtain ⟨hin, hf⟩ := xs_f hf
    refine x_iast hx hb hw (cX43 hE) hin dX11_addShop_151 (fun σ22 H locs ex hw => ?_)
    replace hf := hf σ22 ex
    clear ex hin
    refine lv_aload_n hx hb dX11_addShop_152 rfl (lv_at hl 1 rfl) ?_
    refine x_getr hx hb hw (cX0 hE) (own := RX11) (ref := RX11) (C := RX11) (T := TX11) (N := 14) hts hiX11 hown rfl 8 (by decide) hk70 (fun _ h9 => h9) rfl dX11_addShop_153 ?_
    refine lv_dup hx hb dX11_addShop_156 rfl ?_
    refine x_geti hx hb hw (cX38 hE) (own := RX11) (ref := RX1) (C := RX1) (T := TX1) (N := 9) hts hiX1 hown rfl 5 (by decide) hk316 (fun _ h9 => h9) rfl dX11_addShop_157 ?_
    refine lv_iconst (v := 1) hx hb dX11_addShop_160 (by decide) ?_
    refine lv_iadd hx hb dX11_addShop_161 ?_
    refine x_puti hx hb hw (cX38 hE) (own := RX11) (ref := RX1) (C := RX1) (T := TX1) (N := 9) hts hiX1 tyX1 tyX1_ok nmX1 hown rfl 5 (by decide) hk316 (fun _ h9 => h9) rfl (by decide +kernel) rfl dX11_addShop_162 (fun σ23 H locs ex hw => ?_)
    replace hf := xp_f hf σ23 ex
    clear ex
    refine lv_iload hx hb dX11_addShop_165 (lv_at hl 0 rfl) ?_
    exact x_tiret hx hb hr hlk hw hf (Nat.le_of_ble_eq_true rfl) (Nat.le_of_ble_eq_true rfl) dX11_addShop_167
  have h59 : ∀ (a1 : Int32) (a2 : Int32) (a3 : Int32) (a4 : Int32) (a5 : Int32) (t0 : Int32) (σ : xSt) (H : Heap) (locs : List Loc) (ls : Array Slot), xw E A s.heap s σ H locs → lv_has ls 7 [(0, .ref (E.a 0)), (1, .int a1), (2, .int a2), (3, .int a3), (4, .int a4), (5, .int a5)] → fX11_addShop_c59 a1 a2 a3 a4 a5 t0 σ = some (o1, o2) → W p l e rmX11_addShop s m args below meth c H locs 0 0 (vx_MQ below (xQt E A o1 o2) (xXt E A o1 o2) args s 2 12 A) (F0 m 59 ls [.int t0]) := by
    intro a1 a2 a3 a4 a5 t0 σ H locs ls hw hl hf
    unfold fX11_addShop_c59 at hf
    rcases xct_e hf with ⟨k59, σ12, hcl, hf⟩ | ⟨r11, σ12, hcl, hf⟩
    · refine x_tcallv (vx_runS (As := [.int t0]) (rest := []) ⟨hx, hb, hml, hown, hts⟩ (mX11_needArgument hl0 t0 σ (.inr k59) σ12 hcl H.size) (va_cwS 1 hts gX11_addShop_X11_needArgument rfl rfl rfl (by decide +kernel) ⟨Nat.le_of_ble_eq_true rfl, Nat.le_of_ble_eq_true rfl⟩) (x_preS _ hw hA hG) rfl rfl hl.1 rfl (lv_room (Nat.le_of_ble_eq_true rfl)) dX11_addShop_59 ⟨Nat.le_of_ble_eq_true rfl, Nat.le_of_ble_eq_true rfl⟩) hw hA (fun q9 ce H locs h1 h2 h3 hw => ?_) (fun H locs h1 hw => nomatch h1)
      exact x_tout hlk hex h1 h2 h3 hw hf (Nat.le_of_ble_eq_true rfl) (Nat.le_of_ble_eq_true rfl)
    refine x_tcallv (vx_runS (As := [.int t0]) (rest := []) ⟨hx, hb, hml, hown, hts⟩ (mX11_needArgument hl0 t0 σ (.inl r11) σ12 hcl H.size) (va_cwS 1 hts gX11_addShop_X11_needArgument rfl rfl rfl (by decide +kernel) ⟨Nat.le_of_ble_eq_true rfl, Nat.le_of_ble_eq_true rfl⟩) (x_preS _ hw hA hG) rfl rfl hl.1 rfl (lv_room (Nat.le_of_ble_eq_true rfl)) dX11_addShop_59 ⟨Nat.le_of_ble_eq_true rfl, Nat.le_of_ble_eq_true rfl⟩) hw hA (fun q9 ce H locs h1 h2 h3 hw => by obtain ⟨_, h9, _⟩ := h3; cases h9) (fun H locs h1 hw => ?_)
    clear hcl h1
    refine lv_aload_n hx hb dX11_addShop_62 rfl (lv_at hl 0 rfl) ?_
    refine x_getr hx hb hw (cX0 hE) (own := RX11) (ref := RX11) (C := RX11) (T := TX11) (N := 14) hts hiX11 hown rfl 8 (by decide) hk70 (fun _ h9 => h9) rfl dX11_addShop_63 ?_
    refine x_geti hx hb hw (cX38 hE) (own := RX11) (ref := RX1) (C := RX1) (T := TX1) (N := 9) hts hiX1 hown rfl 5 (by decide) hk316 (fun _ h9 => h9) rfl dX11_addShop_66 ?_
    refine lv_bipush (v := 7) hx hb dX11_addShop_69 (by decide) ?_
    refine lv_icmp_ge (tgt := 78) hx hb dX11_addShop_71 (by decide) (fun c71 => ?_) (fun c71 => ?_)
    · replace hf := xif_pos c71 hf
      refine lv_iconst (v := 0) hx hb dX11_addShop_78 (by decide) ?_
      exact h79 a1 a2 a3 a4 a5 0 σ12 _ _ _ hw (lv_sub hl [0, 1, 2, 3, 4, 5] rfl) hf
    · replace hf := xif_neg c71 hf
      refine lv_iconst (v := 1) hx hb dX11_addShop_74 (by decide) ?_
      refine lv_goto (tgt := 79) hx hb dX11_addShop_75 (by decide) ?_
      exact h79 a1 a2 a3 a4 a5 1 σ12 _ _ _ hw (lv_sub hl [0, 1, 2, 3, 4, 5] rfl) hf
  have h58 : ∀ (a1 : Int32) (a2 : Int32) (a3 : Int32) (a4 : Int32) (a5 : Int32) (σ : xSt) (H : Heap) (locs : List Loc) (ls : Array Slot), xw E A s.heap s σ H locs → lv_has ls 7 [(0, .ref (E.a 0)), (1, .int a1), (2, .int a2), (3, .int a3), (4, .int a4), (5, .int a5)] → fX11_addShop_c58 a1 a2 a3 a4 a5 σ = some (o1, o2) → W p l e rmX11_addShop s m args below meth c H locs 0 0 (vx_MQ below (xQt E A o1 o2) (xXt E A o1 o2) args s 2 12 A) (F0 m 58 ls []) := by
    intro a1 a2 a3 a4 a5 σ H locs ls hw hl hf
    unfold fX11_addShop_c58 at hf
    refine lv_iconst (v := 0) hx hb dX11_addShop_58 (by decide) ?_
    exact h59 a1 a2 a3 a4 a5 0 σ _ _ _ hw (lv_sub hl [0, 1, 2, 3, 4, 5] rfl) hf
  refine lv_iload_n hx hb dX11_addShop_0 rfl (lv_at hl 1 rfl) ?_
  refine lv_iconst (v := 0) hx hb dX11_addShop_1 (by decide) ?_
  refine lv_bipush (v := 20) hx hb dX11_addShop_2 (by decide) ?_
  obtain ⟨r1, σ2, hcl, hf⟩ := xc2_f hf
  refine x_calli (va_runS (As := [.int p0, .int 0, .int 20]) (rest := []) ⟨hx, hb, hml, hown, hts⟩ (mX11_isWithin hE p0 0 20 σ r1 σ2 hcl s.heap.size) (va_cwS 3 hts gX11_addShop_X11_isWithin rfl rfl rfl (by decide +kernel) ⟨Nat.le_of_ble_eq_true rfl, Nat.le_of_ble_eq_true rfl⟩) (x_preS _ hw hA hG) rfl rfl hl.1 rfl (lv_room (Nat.le_of_ble_eq_true rfl)) dX11_addShop_4 ⟨Nat.le_of_ble_eq_true rfl, Nat.le_of_ble_eq_true rfl⟩) hw hA (fun H locs hw => ?_)
  clear hcl
  refine lv_if_eq (tgt := 58) hx hb dX11_addShop_7 (by decide) (fun c7 => ?_) (fun c7 => ?_)
  · replace hf := xif_pos c7 hf
    exact h58 p0 p1 p2 p3 p4 σ2 _ _ _ hw (lv_sub hl [0, 1, 2, 3, 4, 5] rfl) hf
  · replace hf := xif_neg c7 hf
    refine lv_iload_n hx hb dX11_addShop_10 rfl (lv_at hl 2 rfl) ?_
    refine lv_iconst (v := 0) hx hb dX11_addShop_11 (by decide) ?_
    refine lv_bipush (v := 20) hx hb dX11_addShop_12 (by decide) ?_
    obtain ⟨r3, σ4, hcl, hf⟩ := xc2_f hf
    refine x_calli (va_runS (As := [.int p1, .int 0, .int 20]) (rest := []) ⟨hx, hb, hml, hown, hts⟩ (mX11_isWithin hE p1 0 20 σ2 r3 σ4 hcl H.size) (va_cwS 3 hts gX11_addShop_X11_isWithin rfl rfl rfl (by decide +kernel) ⟨Nat.le_of_ble_eq_true rfl, Nat.le_of_ble_eq_true rfl⟩) (x_preS _ hw hA hG) rfl rfl hl.1 rfl (lv_room (Nat.le_of_ble_eq_true rfl)) dX11_addShop_14 ⟨Nat.le_of_ble_eq_true rfl, Nat.le_of_ble_eq_true rfl⟩) hw hA (fun H locs hw => ?_)
    clear hcl
    refine lv_if_eq (tgt := 58) hx hb dX11_addShop_17 (by decide) (fun c17 => ?_) (fun c17 => ?_)
    · replace hf := xif_pos c17 hf
      exact h58 p0 p1 p2 p3 p4 σ4 _ _ _ hw (lv_sub hl [0, 1, 2, 3, 4, 5] rfl) hf
    · replace hf := xif_neg c17 hf
      refine lv_iload_n hx hb dX11_addShop_20 rfl (lv_at hl 3 rfl) ?_
      refine lv_iconst (v := 0) hx hb dX11_addShop_21 (by decide) ?_
      refine lv_sipush (v := 600) hx hb dX11_addShop_22 (by decide) ?_
      obtain ⟨r5, σ6, hcl, hf⟩ := xc2_f hf
      refine x_calli (va_runS (As := [.int p2, .int 0, .int 600]) (rest := []) ⟨hx, hb, hml, hown, hts⟩ (mX11_isWithin hE p2 0 600 σ4 r5 σ6 hcl H.size) (va_cwS 3 hts gX11_addShop_X11_isWithin rfl rfl rfl (by decide +kernel) ⟨Nat.le_of_ble_eq_true rfl, Nat.le_of_ble_eq_true rfl⟩) (x_preS _ hw hA hG) rfl rfl hl.1 rfl (lv_room (Nat.le_of_ble_eq_true rfl)) dX11_addShop_25 ⟨Nat.le_of_ble_eq_true rfl, Nat.le_of_ble_eq_true rfl⟩) hw hA (fun H locs hw => ?_)
      clear hcl
      refine lv_if_eq (tgt := 58) hx hb dX11_addShop_28 (by decide) (fun c28 => ?_) (fun c28 => ?_)
      · replace hf := xif_pos c28 hf
        exact h58 p0 p1 p2 p3 p4 σ6 _ _ _ hw (lv_sub hl [0, 1, 2, 3, 4, 5] rfl) hf
      · replace hf := xif_neg c28 hf
        refine lv_iload hx hb dX11_addShop_31 (lv_at hl 4 rfl) ?_
        refine lv_iload_n hx hb dX11_addShop_33 rfl (lv_at hl 3 rfl) ?_
        refine lv_sipush (v := 600) hx hb dX11_addShop_34 (by decide) ?_
        obtain ⟨r7, σ8, hcl, hf⟩ := xc2_f hf
        refine x_calli (va_runS (As := [.int p3, .int p2, .int 600]) (rest := []) ⟨hx, hb, hml, hown, hts⟩ (mX11_isWithin hE p3 p2 600 σ6 r7 σ8 hcl H.size) (va_cwS 3 hts gX11_addShop_X11_isWithin rfl rfl rfl (by decide +kernel) ⟨Nat.le_of_ble_eq_true rfl, Nat.le_of_ble_eq_true rfl⟩) (x_preS _ hw hA hG) rfl rfl hl.1 rfl (lv_room (Nat.le_of_ble_eq_true rfl)) dX11_addShop_37 ⟨Nat.le_of_ble_eq_true rfl, Nat.le_of_ble_eq_true rfl⟩) hw hA (fun H locs hw => ?_)
        clear hcl
        refine lv_if_eq (tgt := 58) hx hb dX11_addShop_40 (by decide) (fun c40 => ?_) (fun c40 => ?_)
        · replace hf := xif_pos c40 hf
          exact h58 p0 p1 p2 p3 p4 σ8 _ _ _ hw (lv_sub hl [0, 1, 2, 3, 4, 5] rfl) hf
        · replace hf := xif_neg c40 hf
          refine lv_iload hx hb dX11_addShop_43 (lv_at hl 5 rfl) ?_
          refine lv_iconst (v := 0) hx hb dX11_addShop_45 (by decide) ?_
          refine lv_bipush (v := 30) hx hb dX11_addShop_46 (by decide) ?_
          obtain ⟨r9, σ10, hcl, hf⟩ := xc2_f hf
          refine x_calli (va_runS (As := [.int p4, .int 0, .int 30]) (rest := []) ⟨hx, hb, hml, hown, hts⟩ (mX11_isWithin hE p4 0 30 σ8 r9 σ10 hcl H.size) (va_cwS 3 hts gX11_addShop_X11_isWithin rfl rfl rfl (by decide +kernel) ⟨Nat.le_of_ble_eq_true rfl, Nat.le_of_ble_eq_true rfl⟩) (x_preS _ hw hA hG) rfl rfl hl.1 rfl (lv_room (Nat.le_of_ble_eq_true rfl)) dX11_addShop_48 ⟨Nat.le_of_ble_eq_true rfl, Nat.le_of_ble_eq_true rfl⟩) hw hA (fun H locs hw => ?_)
          clear hcl
          refine lv_if_eq (tgt := 58) hx hb dX11_addShop_51 (by decide) (fun c51 => ?_) (fun c51 => ?_)
          · replace hf := xif_pos c51 hf
            exact h58 p0 p1 p2 p3 p4 σ10 _ _ _ hw (lv_sub hl [0, 1, 2, 3, 4, 5] rfl) hf
          · replace hf := xif_neg c51 hf
            refine lv_iconst (v := 1) hx hb dX11_addShop_54 (by decide) ?_
            refine lv_goto (tgt := 59) hx hb dX11_addShop_55 (by decide) ?_
            exact h59 p0 p1 p2 p3 p4 1 σ10 _ _ _ hw (lv_sub hl [0, 1, 2, 3, 4, 5] rfl) hf

def fX11_comesBack (p0 : Int32) (σ : xSt) : Option (xO × xSt) := (xc2 (fX11_isWithin p0 0 600 σ) fun r1 σ2 => (xct (fX11_needArgument r1 σ2) fun r3 σ4 => (xc2 (fX1_findWay p0 σ4) fun r5 σ6 => (xct (fX11_needElement r5 σ6) fun r7 σ8 => some ((.inl (σ8 38 7) : xO), σ8)))))
abbrev rmX11_comesBack : Room := { frames := 15, cells := 2, slots := 12, locals := 425 }
set_option maxRecDepth 100000 in
set_option maxHeartbeats 4000000 in
theorem mX11_comesBack {l : Launch} (hl0 : l.stackTraces = false) {E : xE} (hE : E.sh = shX) (p0 : Int32) (σ : xSt) (o1 : xO) (o2 : xSt) (hf : fX11_comesBack p0 σ = some (o1, o2)) : xMt l yX11_comesBack wsX11_comesBack rmX11_comesBack E [.ref (E.a 0), .int p0] σ o1 o2 2 := by
  unfold fX11_comesBack at hf
  refine xMt_of (cc := cX11_comesBack) (maxL := 2) (ret := (some .int)) (by decide) rfl (Nat.le_of_ble_eq_true rfl) ?_
  intro p e s m args below meth c A ls ⟨hx, hb, hr, hml, hown, hts, hlk⟩ hA hG hw hl hex
  have hown : s.vm.findClass RX11 = some m.cls := hown
  have hl : lv_has ls 2 [(0, .ref (E.a 0)), (1, .int p0)] := hl
  have hk70 := hts (.fieldLink RX11 70 "OvenRound" "cart" "LOvenRound$Cart;") (by decide +kernel)
  have hiX11 : ∀ w ∈ wsX110, w ∈ wsX11_comesBack := by decide +kernel
  have hk335 := hts (.fieldLink RX11 335 "OvenRound$Cart" "bestBack" "I") (by decide +kernel)
  have hiX1 : ∀ w ∈ wsX10, w ∈ wsX11_comesBack := by decide +kernel
  refine lv_iload_n hx hb dX11_comesBack_0 rfl (lv_at hl 1 rfl) ?_
  refine lv_iconst (v := 0) hx hb dX11_comesBack_1 (by decide) ?_
  refine lv_sipush (v := 600) hx hb dX11_comesBack_2 (by decide) ?_
  obtain ⟨r1, σ2, hcl, hf⟩ := xc2_f hf
  refine x_calli (va_runS (As := [.int p0, .int 0, .int 600]) (rest := []) ⟨hx, hb, hml, hown, hts⟩ (mX11_isWithin hE p0 0 600 σ r1 σ2 hcl s.heap.size) (va_cwS 3 hts gX11_comesBack_X11_isWithin rfl rfl rfl (by decide +kernel) ⟨Nat.le_of_ble_eq_true rfl, Nat.le_of_ble_eq_true rfl⟩) (x_preS _ hw hA hG) rfl rfl hl.1 rfl (lv_room (Nat.le_of_ble_eq_true rfl)) dX11_comesBack_5 ⟨Nat.le_of_ble_eq_true rfl, Nat.le_of_ble_eq_true rfl⟩) hw hA (fun H locs hw => ?_)
  clear hcl
  rcases xct_e hf with ⟨k8, σ4, hcl, hf⟩ | ⟨r3, σ4, hcl, hf⟩
  · refine x_tcallv (vx_runS (As := [.int r1]) (rest := []) ⟨hx, hb, hml, hown, hts⟩ (mX11_needArgument hl0 r1 σ2 (.inr k8) σ4 hcl H.size) (va_cwS 1 hts gX11_comesBack_X11_needArgument rfl rfl rfl (by decide +kernel) ⟨Nat.le_of_ble_eq_true rfl, Nat.le_of_ble_eq_true rfl⟩) (x_preS _ hw hA hG) rfl rfl hl.1 rfl (lv_room (Nat.le_of_ble_eq_true rfl)) dX11_comesBack_8 ⟨Nat.le_of_ble_eq_true rfl, Nat.le_of_ble_eq_true rfl⟩) hw hA (fun q9 ce H locs h1 h2 h3 hw => ?_) (fun H locs h1 hw => nomatch h1)
    exact x_tout hlk hex h1 h2 h3 hw hf (Nat.le_of_ble_eq_true rfl) (Nat.le_of_ble_eq_true rfl)
  refine x_tcallv (vx_runS (As := [.int r1]) (rest := []) ⟨hx, hb, hml, hown, hts⟩ (mX11_needArgument hl0 r1 σ2 (.inl r3) σ4 hcl H.size) (va_cwS 1 hts gX11_comesBack_X11_needArgument rfl rfl rfl (by decide +kernel) ⟨Nat.le_of_ble_eq_true rfl, Nat.le_of_ble_eq_true rfl⟩) (x_preS _ hw hA hG) rfl rfl hl.1 rfl (lv_room (Nat.le_of_ble_eq_true rfl)) dX11_comesBack_8 ⟨Nat.le_of_ble_eq_true rfl, Nat.le_of_ble_eq_true rfl⟩) hw hA (fun q9 ce H locs h1 h2 h3 hw => by obtain ⟨_, h9, _⟩ := h3; cases h9) (fun H locs h1 hw => ?_)
  clear hcl h1
  refine lv_aload_n hx hb dX11_comesBack_11 rfl (lv_at hl 0 rfl) ?_
  refine x_getr hx hb hw (cX0 hE) (own := RX11) (ref := RX11) (C := RX11) (T := TX11) (N := 14) hts hiX11 hown rfl 8 (by decide) hk70 (fun _ h9 => h9) rfl dX11_comesBack_12 ?_
  refine lv_iload_n hx hb dX11_comesBack_15 rfl (lv_at hl 1 rfl) ?_
  obtain ⟨r5, σ6, hcl, hf⟩ := xc2_f hf
  refine x_calli (va_runV (As := [.int p0]) (rest := []) ⟨hx, hb, hml, hown, hts⟩ (mX1_findWay hE p0 σ4 r5 σ6 hcl H.size) (cwV 1 hts gX11_comesBack_X1_findWay rfl rfl rfl (by decide +kernel) ⟨Nat.le_of_ble_eq_true rfl, Nat.le_of_ble_eq_true rfl⟩) (x_preV _ hw hA hG (cX38 hE) rfl) rfl rfl hl.1 rfl (lv_room (Nat.le_of_ble_eq_true rfl)) dX11_comesBack_16 ⟨Nat.le_of_ble_eq_true rfl, Nat.le_of_ble_eq_true rfl⟩) hw hA (fun H locs hw => ?_)
  clear hcl
  rcases xct_e hf with ⟨k19, σ8, hcl, hf⟩ | ⟨r7, σ8, hcl, hf⟩
  · refine x_tcallv (vx_runS (As := [.int r5]) (rest := []) ⟨hx, hb, hml, hown, hts⟩ (mX11_needElement hl0 r5 σ6 (.inr k19) σ8 hcl H.size) (va_cwS 1 hts gX11_comesBack_X11_needElement rfl rfl rfl (by decide +kernel) ⟨Nat.le_of_ble_eq_true rfl, Nat.le_of_ble_eq_true rfl⟩) (x_preS _ hw hA hG) rfl rfl hl.1 rfl (lv_room (Nat.le_of_ble_eq_true rfl)) dX11_comesBack_19 ⟨Nat.le_of_ble_eq_true rfl, Nat.le_of_ble_eq_true rfl⟩) hw hA (fun q9 ce H locs h1 h2 h3 hw => ?_) (fun H locs h1 hw => nomatch h1)
    exact x_tout hlk hex h1 h2 h3 hw hf (Nat.le_of_ble_eq_true rfl) (Nat.le_of_ble_eq_true rfl)
  refine x_tcallv (vx_runS (As := [.int r5]) (rest := []) ⟨hx, hb, hml, hown, hts⟩ (mX11_needElement hl0 r5 σ6 (.inl r7) σ8 hcl H.size) (va_cwS 1 hts gX11_comesBack_X11_needElement rfl rfl rfl (by decide +kernel) ⟨Nat.le_of_ble_eq_true rfl, Nat.le_of_ble_eq_true rfl⟩) (x_preS _ hw hA hG) rfl rfl hl.1 rfl (lv_room (Nat.le_of_ble_eq_true rfl)) dX11_comesBack_19 ⟨Nat.le_of_ble_eq_true rfl, Nat.le_of_ble_eq_true rfl⟩) hw hA (fun q9 ce H locs h1 h2 h3 hw => by obtain ⟨_, h9, _⟩ := h3; cases h9) (fun H locs h1 hw => ?_)
  clear hcl h1
  refine lv_aload_n hx hb dX11_comesBack_22 rfl (lv_at hl 0 rfl) ?_
  refine x_getr hx hb hw (cX0 hE) (own := RX11) (ref := RX11) (C := RX11) (T := TX11) (N := 14) hts hiX11 hown rfl 8 (by decide) hk70 (fun _ h9 => h9) rfl dX11_comesBack_23 ?_
  refine x_geti hx hb hw (cX38 hE) (own := RX11) (ref := RX1) (C := RX1) (T := TX1) (N := 9) hts hiX1 hown rfl 7 (by decide) hk335 (fun _ h9 => h9) rfl dX11_comesBack_26 ?_
  exact x_tiret hx hb hr hlk hw hf (Nat.le_of_ble_eq_true rfl) (Nat.le_of_ble_eq_true rfl) dX11_comesBack_29

def fX11_shopOf (p0 : Int32) (p1 : Int32) (σ : xSt) : Option (xO × xSt) := (xc2 (fX11_isWithin p1 0 ((σ 38 5) - 1) σ) fun r1 σ2 => (xct (fX11_needIndex r1 σ2) fun r3 σ4 => (xc2 (fX11_isWithin p0 0 600 σ4) fun r5 σ6 => (xct (fX11_needArgument r5 σ6) fun r7 σ8 => (xc2 (fX1_findWay p0 σ8) fun r9 σ10 => (xct (fX11_needElement r9 σ10) fun r11 σ12 => (xr σ12 44 7 p1 fun v13 => some ((.inl v13 : xO), σ12))))))))
abbrev rmX11_shopOf : Room := { frames := 15, cells := 3, slots := 18, locals := 425 }
set_option maxRecDepth 100000 in
set_option maxHeartbeats 4000000 in
theorem mX11_shopOf {l : Launch} (hl0 : l.stackTraces = false) {E : xE} (hE : E.sh = shX) (p0 : Int32) (p1 : Int32) (σ : xSt) (o1 : xO) (o2 : xSt) (hf : fX11_shopOf p0 p1 σ = some (o1, o2)) : xMt l yX11_shopOf wsX11_shopOf rmX11_shopOf E [.ref (E.a 0), .int p0, .int p1] σ o1 o2 3 := by
  unfold fX11_shopOf at hf
  refine xMt_of (cc := cX11_shopOf) (maxL := 3) (ret := (some .int)) (by decide) rfl (Nat.le_of_ble_eq_true rfl) ?_
  intro p e s m args below meth c A ls ⟨hx, hb, hr, hml, hown, hts, hlk⟩ hA hG hw hl hex
  have hown : s.vm.findClass RX11 = some m.cls := hown
  have hl : lv_has ls 3 [(0, .ref (E.a 0)), (1, .int p0), (2, .int p1)] := hl
  have hk70 := hts (.fieldLink RX11 70 "OvenRound" "cart" "LOvenRound$Cart;") (by decide +kernel)
  have hiX11 : ∀ w ∈ wsX110, w ∈ wsX11_shopOf := by decide +kernel
  have hk316 := hts (.fieldLink RX11 316 "OvenRound$Cart" "count" "I") (by decide +kernel)
  have hiX1 : ∀ w ∈ wsX10, w ∈ wsX11_shopOf := by decide +kernel
  have hk338 := hts (.fieldLink RX11 338 "OvenRound$Cart" "bestWay" "[I") (by decide +kernel)
  refine lv_iload_n hx hb dX11_shopOf_0 rfl (lv_at hl 2 rfl) ?_
  refine lv_iconst (v := 0) hx hb dX11_shopOf_1 (by decide) ?_
  refine lv_aload_n hx hb dX11_shopOf_2 rfl (lv_at hl 0 rfl) ?_
  refine x_getr hx hb hw (cX0 hE) (own := RX11) (ref := RX11) (C := RX11) (T := TX11) (N := 14) hts hiX11 hown rfl 8 (by decide) hk70 (fun _ h9 => h9) rfl dX11_shopOf_3 ?_
  refine x_geti hx hb hw (cX38 hE) (own := RX11) (ref := RX1) (C := RX1) (T := TX1) (N := 9) hts hiX1 hown rfl 5 (by decide) hk316 (fun _ h9 => h9) rfl dX11_shopOf_6 ?_
  refine lv_iconst (v := 1) hx hb dX11_shopOf_9 (by decide) ?_
  refine lv_isub hx hb dX11_shopOf_10 ?_
  obtain ⟨r1, σ2, hcl, hf⟩ := xc2_f hf
  refine x_calli (va_runS (As := [.int p1, .int 0, .int ((σ 38 5) - 1)]) (rest := []) ⟨hx, hb, hml, hown, hts⟩ (mX11_isWithin hE p1 0 ((σ 38 5) - 1) σ r1 σ2 hcl s.heap.size) (va_cwS 3 hts gX11_shopOf_X11_isWithin rfl rfl rfl (by decide +kernel) ⟨Nat.le_of_ble_eq_true rfl, Nat.le_of_ble_eq_true rfl⟩) (x_preS _ hw hA hG) rfl rfl hl.1 rfl (lv_room (Nat.le_of_ble_eq_true rfl)) dX11_shopOf_11 ⟨Nat.le_of_ble_eq_true rfl, Nat.le_of_ble_eq_true rfl⟩) hw hA (fun H locs hw => ?_)
  clear hcl
  rcases xct_e hf with ⟨k14, σ4, hcl, hf⟩ | ⟨r3, σ4, hcl, hf⟩
  · refine x_tcallv (vx_runS (As := [.int r1]) (rest := []) ⟨hx, hb, hml, hown, hts⟩ (mX11_needIndex hl0 r1 σ2 (.inr k14) σ4 hcl H.size) (va_cwS 1 hts gX11_shopOf_X11_needIndex rfl rfl rfl (by decide +kernel) ⟨Nat.le_of_ble_eq_true rfl, Nat.le_of_ble_eq_true rfl⟩) (x_preS _ hw hA hG) rfl rfl hl.1 rfl (lv_room (Nat.le_of_ble_eq_true rfl)) dX11_shopOf_14 ⟨Nat.le_of_ble_eq_true rfl, Nat.le_of_ble_eq_true rfl⟩) hw hA (fun q9 ce H locs h1 h2 h3 hw => ?_) (fun H locs h1 hw => nomatch h1)
    exact x_tout hlk hex h1 h2 h3 hw hf (Nat.le_of_ble_eq_true rfl) (Nat.le_of_ble_eq_true rfl)
  refine x_tcallv (vx_runS (As := [.int r1]) (rest := []) ⟨hx, hb, hml, hown, hts⟩ (mX11_needIndex hl0 r1 σ2 (.inl r3) σ4 hcl H.size) (va_cwS 1 hts gX11_shopOf_X11_needIndex rfl rfl rfl (by decide +kernel) ⟨Nat.le_of_ble_eq_true rfl, Nat.le_of_ble_eq_true rfl⟩) (x_preS _ hw hA hG) rfl rfl hl.1 rfl (lv_room (Nat.le_of_ble_eq_true rfl)) dX11_shopOf_14 ⟨Nat.le_of_ble_eq_true rfl, Nat.le_of_ble_eq_true rfl⟩) hw hA (fun q9 ce H locs h1 h2 h3 hw => by obtain ⟨_, h9, _⟩ := h3; cases h9) (fun H locs h1 hw => ?_)
  clear hcl h1
  refine lv_iload_n hx hb dX11_shopOf_17 rfl (lv_at hl 1 rfl) ?_
  refine lv_iconst (v := 0) hx hb dX11_shopOf_18 (by decide) ?_
  refine lv_sipush (v := 600) hx hb dX11_shopOf_19 (by decide) ?_
  obtain ⟨r5, σ6, hcl, hf⟩ := xc2_f hf
  refine x_calli (va_runS (As := [.int p0, .int 0, .int 600]) (rest := []) ⟨hx, hb, hml, hown, hts⟩ (mX11_isWithin hE p0 0 600 σ4 r5 σ6 hcl H.size) (va_cwS 3 hts gX11_shopOf_X11_isWithin rfl rfl rfl (by decide +kernel) ⟨Nat.le_of_ble_eq_true rfl, Nat.le_of_ble_eq_true rfl⟩) (x_preS _ hw hA hG) rfl rfl hl.1 rfl (lv_room (Nat.le_of_ble_eq_true rfl)) dX11_shopOf_22 ⟨Nat.le_of_ble_eq_true rfl, Nat.le_of_ble_eq_true rfl⟩) hw hA (fun H locs hw => ?_)
  clear hcl
  rcases xct_e hf with ⟨k25, σ8, hcl, hf⟩ | ⟨r7, σ8, hcl, hf⟩
  · refine x_tcallv (vx_runS (As := [.int r5]) (rest := []) ⟨hx, hb, hml, hown, hts⟩ (mX11_needArgument hl0 r5 σ6 (.inr k25) σ8 hcl H.size) (va_cwS 1 hts gX11_shopOf_X11_needArgument rfl rfl rfl (by decide +kernel) ⟨Nat.le_of_ble_eq_true rfl, Nat.le_of_ble_eq_true rfl⟩) (x_preS _ hw hA hG) rfl rfl hl.1 rfl (lv_room (Nat.le_of_ble_eq_true rfl)) dX11_shopOf_25 ⟨Nat.le_of_ble_eq_true rfl, Nat.le_of_ble_eq_true rfl⟩) hw hA (fun q9 ce H locs h1 h2 h3 hw => ?_) (fun H locs h1 hw => nomatch h1)
    exact x_tout hlk hex h1 h2 h3 hw hf (Nat.le_of_ble_eq_true rfl) (Nat.le_of_ble_eq_true rfl)
  refine x_tcallv (vx_runS (As := [.int r5]) (rest := []) ⟨hx, hb, hml, hown, hts⟩ (mX11_needArgument hl0 r5 σ6 (.inl r7) σ8 hcl H.size) (va_cwS 1 hts gX11_shopOf_X11_needArgument rfl rfl rfl (by decide +kernel) ⟨Nat.le_of_ble_eq_true rfl, Nat.le_of_ble_eq_true rfl⟩) (x_preS _ hw hA hG) rfl rfl hl.1 rfl (lv_room (Nat.le_of_ble_eq_true rfl)) dX11_shopOf_25 ⟨Nat.le_of_ble_eq_true rfl, Nat.le_of_ble_eq_true rfl⟩) hw hA (fun q9 ce H locs h1 h2 h3 hw => by obtain ⟨_, h9, _⟩ := h3; cases h9) (fun H locs h1 hw => ?_)
  clear hcl h1
  refine lv_aload_n hx hb dX11_shopOf_28 rfl (lv_at hl 0 rfl) ?_
  refine x_getr hx hb hw (cX0 hE) (own := RX11) (ref := RX11) (C := RX11) (T := TX11) (N := 14) hts hiX11 hown rfl 8 (by decide) hk70 (fun _ h9 => h9) rfl dX11_shopOf_29 ?_
  refine lv_iload_n hx hb dX11_shopOf_32 rfl (lv_at hl 1 rfl) ?_
  obtain ⟨r9, σ10, hcl, hf⟩ := xc2_f hf
  refine x_calli (va_runV (As := [.int p0]) (rest := []) ⟨hx, hb, hml, hown, hts⟩ (mX1_findWay hE p0 σ8 r9 σ10 hcl H.size) (cwV 1 hts gX11_shopOf_X1_findWay rfl rfl rfl (by decide +kernel) ⟨Nat.le_of_ble_eq_true rfl, Nat.le_of_ble_eq_true rfl⟩) (x_preV _ hw hA hG (cX38 hE) rfl) rfl rfl hl.1 rfl (lv_room (Nat.le_of_ble_eq_true rfl)) dX11_shopOf_33 ⟨Nat.le_of_ble_eq_true rfl, Nat.le_of_ble_eq_true rfl⟩) hw hA (fun H locs hw => ?_)
  clear hcl
  rcases xct_e hf with ⟨k36, σ12, hcl, hf⟩ | ⟨r11, σ12, hcl, hf⟩
  · refine x_tcallv (vx_runS (As := [.int r9]) (rest := []) ⟨hx, hb, hml, hown, hts⟩ (mX11_needElement hl0 r9 σ10 (.inr k36) σ12 hcl H.size) (va_cwS 1 hts gX11_shopOf_X11_needElement rfl rfl rfl (by decide +kernel) ⟨Nat.le_of_ble_eq_true rfl, Nat.le_of_ble_eq_true rfl⟩) (x_preS _ hw hA hG) rfl rfl hl.1 rfl (lv_room (Nat.le_of_ble_eq_true rfl)) dX11_shopOf_36 ⟨Nat.le_of_ble_eq_true rfl, Nat.le_of_ble_eq_true rfl⟩) hw hA (fun q9 ce H locs h1 h2 h3 hw => ?_) (fun H locs h1 hw => nomatch h1)
    exact x_tout hlk hex h1 h2 h3 hw hf (Nat.le_of_ble_eq_true rfl) (Nat.le_of_ble_eq_true rfl)
  refine x_tcallv (vx_runS (As := [.int r9]) (rest := []) ⟨hx, hb, hml, hown, hts⟩ (mX11_needElement hl0 r9 σ10 (.inl r11) σ12 hcl H.size) (va_cwS 1 hts gX11_shopOf_X11_needElement rfl rfl rfl (by decide +kernel) ⟨Nat.le_of_ble_eq_true rfl, Nat.le_of_ble_eq_true rfl⟩) (x_preS _ hw hA hG) rfl rfl hl.1 rfl (lv_room (Nat.le_of_ble_eq_true rfl)) dX11_shopOf_36 ⟨Nat.le_of_ble_eq_true rfl, Nat.le_of_ble_eq_true rfl⟩) hw hA (fun q9 ce H locs h1 h2 h3 hw => by obtain ⟨_, h9, _⟩ := h3; cases h9) (fun H locs h1 hw => ?_)
  clear hcl h1
  refine lv_aload_n hx hb dX11_shopOf_39 rfl (lv_at hl 0 rfl) ?_
  refine x_getr hx hb hw (cX0 hE) (own := RX11) (ref := RX11) (C := RX11) (T := TX11) (N := 14) hts hiX11 hown rfl 8 (by decide) hk70 (fun _ h9 => h9) rfl dX11_shopOf_40 ?_
  refine x_getr hx hb hw (cX38 hE) (own := RX11) (ref := RX1) (C := RX1) (T := TX1) (N := 9) hts hiX1 hown rfl 6 (by decide) hk338 (fun _ h9 => h9) rfl dX11_shopOf_43 ?_
  refine lv_iload_n hx hb dX11_shopOf_46 rfl (lv_at hl 2 rfl) ?_
  obtain ⟨hin, hf⟩ := xr_f hf
  refine x_iald hx hb hw (cX44 hE) hin dX11_shopOf_47 ?_
  refine lv_topi (fun v13 ex => ?_)
  replace hf := hf v13 ex
  clear ex hin
  exact x_tiret hx hb hr hlk hw hf (Nat.le_of_ble_eq_true rfl) (Nat.le_of_ble_eq_true rfl) dX11_shopOf_48
