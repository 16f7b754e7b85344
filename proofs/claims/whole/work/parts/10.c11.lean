def fX12_undo_c39 : Nat → Int32 → Int32 → xSt → Option (Int32 × xSt)
  | 0 => fun _ _ _ => none
  | n + 1 => fun a1 a2 σ => (if 660 ≤ a2 then some ((σ 0 3), σ) else (xr σ 2 5440 (a1 + a2) fun v6 => (xs σ 1 680 a2 v6 fun σ7 => (xl (a2 + 1) fun v8 => fX12_undo_c39 n a1 v8 σ7))))
theorem fX12_undo_c39_s (n : Nat) (a1 : Int32) (a2 : Int32) (σ : xSt) : fX12_undo_c39 (n + 1) a1 a2 σ = ((if 660 ≤ a2 then some ((σ 0 3), σ) else (xr σ 2 5440 (a1 + a2) fun v6 => (xs σ 1 680 a2 v6 fun σ7 => (xl (a2 + 1) fun v8 => fX12_undo_c39 n a1 v8 σ7)))) : Option (Int32 × xSt)) := rfl
def fX12_undo_c13 (t0 : Int32) (σ : xSt) : Option (Int32 × xSt) := (xc2 (fX12_can t0 1 σ) fun r1 σ2 => (if r1 = 0 then some (0, σ2) else (xp σ2 0 3 ((σ2 0 3) - 1) fun σ3 => (xc2 (fX12_keptAt σ3) fun r4 σ5 => fX12_undo_c39 xFU r4 0 σ5))))
def fX12_undo (σ : xSt) : Option (Int32 × xSt) := (if (σ 0 3) ≤ 0 then fX12_undo_c13 0 σ else fX12_undo_c13 1 σ)
abbrev rmX12_undo : Room := { frames := 1, cells := 0, slots := 0, locals := 22 }
set_option maxRecDepth 100000 in
set_option maxHeartbeats 4000000 in
theorem mX12_undo {l : Launch} {E : xE} (hE : E.sh = shM) (σ : xSt) (o1 : Int32) (o2 : xSt) (hf : fX12_undo σ = some (o1, o2)) : xMi l yX12_undo wsX12_undo rmX12_undo E [.ref (E.a 0)] σ o1 o2 := by
  unfold fX12_undo at hf
  refine xMi_of (cc := cX12_undo) (maxL := 3) (ret := (some .int)) (by decide) rfl (Nat.le_of_ble_eq_true rfl) ?_
  intro p e s m args below meth c A ls ⟨hx, hb, hr, hml, hown, hts, hlk⟩ hA hG hw hl
  have hown : s.vm.findClass RX12 = some m.cls := hown
  have hl : lv_has ls 3 [(0, .ref (E.a 0))] := hl
  have hk53 := hts (.fieldLink RX12 53 "OvenRoundModel" "undos" "I") (by decide +kernel)
  have hiX12 : ∀ w ∈ wsX120, w ∈ wsX12_undo := by decide +kernel
  have hk9 := hts (.fieldLink RX12 9 "OvenRoundModel" "w" "[I") (by decide +kernel)
  have hk13 := hts (.fieldLink RX12 13 "OvenRoundModel" "kept" "[I") (by decide +kernel)
  have h39 : ∀ (n : Nat) (a1 : Int32) (a2 : Int32) (σ : xSt) (H : Heap) (locs : List Loc) (ls : Array Slot), xw E A s.heap s σ H locs → lv_has ls 3 [(0, .ref (E.a 0)), (1, .int a1), (2, .int a2)] → fX12_undo_c39 n a1 a2 σ = some (o1, o2) → W p l e rmX12_undo s m args below meth c H locs 0 0 (MQ below (xQi E A o1 o2) args s 0 0 A) (F0 m 39 ls []) := by
    intro n39
    induction n39 with
    | zero => intro a1 a2 σ H locs ls hw hl hf; exact nomatch hf
    | succ n39 ih39 =>
      intro a1 a2 σ H locs ls hw hl hf
      rw [fX12_undo_c39_s] at hf
      refine lv_iload_n hx hb dX12_undo_39 rfl (lv_at hl 2 rfl) ?_
      refine lv_sipush (v := 660) hx hb dX12_undo_40 (by decide) ?_
      refine lv_icmp_ge (tgt := 66) hx hb dX12_undo_43 (by decide) (fun c43 => ?_) (fun c43 => ?_)
      · replace hf := xif_pos c43 hf
        refine lv_aload_n hx hb dX12_undo_66 rfl (lv_at hl 0 rfl) ?_
        refine x_geti hx hb hw (cM0 hE) (own := RX12) (ref := RX12) (C := RX12) (T := TX12) (N := 20) hts hiX12 hown rfl 3 (by decide) hk53 (fun _ h9 => h9) rfl dX12_undo_67 ?_
        exact x_iret hx hb hr hlk hw hf dX12_undo_70
      · replace hf := xif_neg c43 hf
        refine lv_aload_n hx hb dX12_undo_46 rfl (lv_at hl 0 rfl) ?_
        refine x_getr hx hb hw (cM0 hE) (own := RX12) (ref := RX12) (C := RX12) (T := TX12) (N := 20) hts hiX12 hown rfl 1 (by decide) hk9 (fun _ h9 => h9) rfl dX12_undo_47 ?_
        refine lv_iload_n hx hb dX12_undo_50 rfl (lv_at hl 2 rfl) ?_
        refine lv_aload_n hx hb dX12_undo_51 rfl (lv_at hl 0 rfl) ?_
        refine x_getr hx hb hw (cM0 hE) (own := RX12) (ref := RX12) (C := RX12) (T := TX12) (N := 20) hts hiX12 hown rfl 2 (by decide) hk13 (fun _ h9 => h9) rfl dX12_undo_52 ?_
        refine lv_iload_n hx hb dX12_undo_55 rfl (lv_at hl 1 rfl) ?_
        refine lv_iload_n hx hb dX12_undo_56 rfl (lv_at hl 2 rfl) ?_
        refine lv_iadd hx hb dX12_undo_57 ?_
        obtain ⟨hin, hf⟩ := xr_f hf
        refine x_iald hx hb hw (cM2 hE) hin dX12_undo_58 ?_
        refine lv_topi (fun v6 ex => ?_)
        replace hf := hf v6 ex
        clear ex hin
        obtain ⟨hin, hf⟩ := xs_f hf
        refine x_iast hx hb hw (cM1 hE) hin dX12_undo_59 (fun σ7 H locs ex hw => ?_)
        replace hf := hf σ7 ex
        clear ex hin
        obtain ⟨v8, ex⟩ : ∃ y : Int32, y = (a2 + 1) := ⟨_, rfl⟩
        replace hf := xl_f hf v8 ex
        refine lv_iinc (v := v8) (lv' := [(2, .int v8), (0, .ref (E.a 0)), (1, .int a1)]) hx hb dX12_undo_60 hl (k := 2) rfl (by rw [ex]; rfl) (by decide) rfl (fun ls hl => ?_)
        clear ex
        refine lv_goto (tgt := 39) hx hb dX12_undo_63 (by decide) ?_
        exact ih39 a1 v8 σ7 _ _ _ hw (lv_sub hl [1, 2, 0] rfl) hf
  have h13 : ∀ (t0 : Int32) (σ : xSt) (H : Heap) (locs : List Loc) (ls : Array Slot), xw E A s.heap s σ H locs → lv_has ls 3 [(0, .ref (E.a 0))] → fX12_undo_c13 t0 σ = some (o1, o2) → W p l e rmX12_undo s m args below meth c H locs 0 0 (MQ below (xQi E A o1 o2) args s 0 0 A) (F0 m 13 ls [.int t0, .ref (E.a 0)]) := by
    intro t0 σ H locs ls hw hl hf
    unfold fX12_undo_c13 at hf
    refine lv_iconst (v := 1) hx hb dX12_undo_13 (by decide) ?_
    obtain ⟨r1, σ2, hcl, hf⟩ := xc2_f hf
    refine x_calli (va_runV (As := [.int t0, .int 1]) (rest := []) ⟨hx, hb, hml, hown, hts⟩ (mX12_can hE t0 1 σ r1 σ2 hcl H.size) (cwV 2 hts gX12_undo_X12_can rfl rfl rfl (by decide +kernel) ⟨Nat.le_of_ble_eq_true rfl, Nat.le_of_ble_eq_true rfl⟩) (x_preV _ hw hA hG (cM0 hE) rfl) rfl rfl hl.1 rfl (lv_room (Nat.le_of_ble_eq_true rfl)) dX12_undo_14 ⟨Nat.le_of_ble_eq_true rfl, Nat.le_of_ble_eq_true rfl⟩) hw hA (fun H locs hw => ?_)
    clear hcl
    refine lv_if_ne (tgt := 22) hx hb dX12_undo_17 (by decide) (fun c17 => ?_) (fun c17 => ?_)
    · replace hf := xif_neg c17 hf
      refine lv_aload_n hx hb dX12_undo_22 rfl (lv_at hl 0 rfl) ?_
      refine lv_dup hx hb dX12_undo_23 rfl ?_
      refine x_geti hx hb hw (cM0 hE) (own := RX12) (ref := RX12) (C := RX12) (T := TX12) (N := 20) hts hiX12 hown rfl 3 (by decide) hk53 (fun _ h9 => h9) rfl dX12_undo_24 ?_
      refine lv_iconst (v := 1) hx hb dX12_undo_27 (by decide) ?_
      refine lv_isub hx hb dX12_undo_28 ?_
      refine x_puti hx hb hw (cM0 hE) (own := RX12) (ref := RX12) (C := RX12) (T := TX12) (N := 20) hts hiX12 tyX12 tyX12_ok nmX12 hown rfl 3 (by decide) hk53 (fun _ h9 => h9) rfl (by decide +kernel) rfl dX12_undo_29 (fun σ3 H locs ex hw => ?_)
      replace hf := xp_f hf σ3 ex
      clear ex
      refine lv_aload_n hx hb dX12_undo_32 rfl (lv_at hl 0 rfl) ?_
      obtain ⟨r4, σ5, hcl, hf⟩ := xc2_f hf
      refine x_calli (va_runV (As := []) (rest := []) ⟨hx, hb, hml, hown, hts⟩ (mX12_keptAt hE σ3 r4 σ5 hcl H.size) (cwV 0 hts gX12_undo_X12_keptAt rfl rfl rfl (by decide +kernel) ⟨Nat.le_of_ble_eq_true rfl, Nat.le_of_ble_eq_true rfl⟩) (x_preV _ hw hA hG (cM0 hE) rfl) rfl rfl hl.1 rfl (lv_room (Nat.le_of_ble_eq_true rfl)) dX12_undo_33 ⟨Nat.le_of_ble_eq_true rfl, Nat.le_of_ble_eq_true rfl⟩) hw hA (fun H locs hw => ?_)
      clear hcl
      refine lv_istore_n (lv' := [(1, .int r4), (0, .ref (E.a 0))]) hx hb dX12_undo_36 rfl hl (by decide) rfl (fun ls hl => ?_)
      refine lv_iconst (v := 0) hx hb dX12_undo_37 (by decide) ?_
      refine lv_istore_n (lv' := [(2, .int 0), (1, .int r4), (0, .ref (E.a 0))]) hx hb dX12_undo_38 rfl hl (by decide) rfl (fun ls hl => ?_)
      exact h39 xFU r4 0 σ5 _ _ _ hw (lv_sub hl [2, 1, 0] rfl) hf
    · replace hf := xif_pos c17 hf
      refine lv_iconst (v := 0) hx hb dX12_undo_20 (by decide) ?_
      exact x_iret hx hb hr hlk hw hf dX12_undo_21
  refine lv_aload_n hx hb dX12_undo_0 rfl (lv_at hl 0 rfl) ?_
  refine lv_aload_n hx hb dX12_undo_1 rfl (lv_at hl 0 rfl) ?_
  refine x_geti hx hb hw (cM0 hE) (own := RX12) (ref := RX12) (C := RX12) (T := TX12) (N := 20) hts hiX12 hown rfl 3 (by decide) hk53 (fun _ h9 => h9) rfl dX12_undo_2 ?_
  refine lv_if_le (tgt := 12) hx hb dX12_undo_5 (by decide) (fun c5 => ?_) (fun c5 => ?_)
  · replace hf := xif_pos c5 hf
    refine lv_iconst (v := 0) hx hb dX12_undo_12 (by decide) ?_
    exact h13 0 σ _ _ _ hw (lv_sub hl [0] rfl) hf
  · replace hf := xif_neg c5 hf
    refine lv_iconst (v := 1) hx hb dX12_undo_8 (by decide) ?_
    refine lv_goto (tgt := 13) hx hb dX12_undo_9 (by decide) ?_
    exact h13 1 σ _ _ _ hw (lv_sub hl [0] rfl) hf

def fX12_actCount (σ : xSt) : Option (Int32 × xSt) := (xp σ 0 0 0 fun σ1 => some ((σ1 0 3), σ1))
abbrev rmX12_actCount : Room := { frames := 0, cells := 0, slots := 0, locals := 0 }
set_option maxRecDepth 100000 in
set_option maxHeartbeats 4000000 in
theorem mX12_actCount {l : Launch} {E : xE} (hE : E.sh = shM) (σ : xSt) (o1 : Int32) (o2 : xSt) (hf : fX12_actCount σ = some (o1, o2)) : xMi l yX12_actCount wsX12_actCount rmX12_actCount E [.ref (E.a 0)] σ o1 o2 := by
  unfold fX12_actCount at hf
  refine xMi_of (cc := cX12_actCount) (maxL := 1) (ret := (some .int)) (by decide) rfl (Nat.le_of_ble_eq_true rfl) ?_
  intro p e s m args below meth c A ls ⟨hx, hb, hr, hml, hown, hts, hlk⟩ hA hG hw hl
  have hown : s.vm.findClass RX12 = some m.cls := hown
  have hl : lv_has ls 1 [(0, .ref (E.a 0))] := hl
  have hk46 := hts (.fieldLink RX12 46 "OvenRoundModel" "raised" "I") (by decide +kernel)
  have hiX12 : ∀ w ∈ wsX120, w ∈ wsX12_actCount := by decide +kernel
  have hk53 := hts (.fieldLink RX12 53 "OvenRoundModel" "undos" "I") (by decide +kernel)
  refine lv_aload_n hx hb dX12_actCount_0 rfl (lv_at hl 0 rfl) ?_
  refine lv_iconst (v := 0) hx hb dX12_actCount_1 (by decide) ?_
  refine x_puti hx hb hw (cM0 hE) (own := RX12) (ref := RX12) (C := RX12) (T := TX12) (N := 20) hts hiX12 tyX12 tyX12_ok nmX12 hown rfl 0 (by decide) hk46 (fun _ h9 => h9) rfl (by decide +kernel) rfl dX12_actCount_2 (fun σ1 H locs ex hw => ?_)
  replace hf := xp_f hf σ1 ex
  clear ex
  refine lv_aload_n hx hb dX12_actCount_5 rfl (lv_at hl 0 rfl) ?_
  refine x_geti hx hb hw (cM0 hE) (own := RX12) (ref := RX12) (C := RX12) (T := TX12) (N := 20) hts hiX12 hown rfl 3 (by decide) hk53 (fun _ h9 => h9) rfl dX12_actCount_6 ?_
  exact x_iret hx hb hr hlk hw hf dX12_actCount_9

def fX12_isGood (p0 : Int32) (σ : xSt) : Option (Int32 × xSt) := (xc2 (fX12_in p0 0 7 σ) fun r1 σ2 => xb r1 (some (r1, σ2)))
abbrev rmX12_isGood : Room := { frames := 1, cells := 0, slots := 0, locals := 22 }
set_option maxRecDepth 100000 in
set_option maxHeartbeats 4000000 in
theorem mX12_isGood {l : Launch} {E : xE} (hE : E.sh = shM) (p0 : Int32) (σ : xSt) (o1 : Int32) (o2 : xSt) (hf : fX12_isGood p0 σ = some (o1, o2)) : xMi l yX12_isGood wsX12_isGood rmX12_isGood E [.int p0] σ o1 o2 := by
  unfold fX12_isGood at hf
  refine xMi_of (cc := cX12_isGood) (maxL := 1) (ret := (some .boolean)) (by decide) rfl (Nat.le_of_ble_eq_true rfl) ?_
  intro p e s m args below meth c A ls ⟨hx, hb, hr, hml, hown, hts, hlk⟩ hA hG hw hl
  have hown : s.vm.findClass RX12 = some m.cls := hown
  have hl : lv_has ls 1 [(0, .int p0)] := hl
  refine lv_iload_n hx hb dX12_isGood_0 rfl (lv_at hl 0 rfl) ?_
  refine lv_iconst (v := 0) hx hb dX12_isGood_1 (by decide) ?_
  refine lv_bipush (v := 7) hx hb dX12_isGood_2 (by decide) ?_
  obtain ⟨r1, σ2, hcl, hf⟩ := xc2_f hf
  refine x_calli (va_runS (As := [.int p0, .int 0, .int 7]) (rest := []) ⟨hx, hb, hml, hown, hts⟩ (mX12_in hE p0 0 7 σ r1 σ2 hcl s.heap.size) (va_cwS 3 hts gX12_isGood_X12_in rfl rfl rfl (by decide +kernel) ⟨Nat.le_of_ble_eq_true rfl, Nat.le_of_ble_eq_true rfl⟩) (x_preS _ hw hA hG) rfl rfl hl.1 rfl (lv_room (Nat.le_of_ble_eq_true rfl)) dX12_isGood_4 ⟨Nat.le_of_ble_eq_true rfl, Nat.le_of_ble_eq_true rfl⟩) hw hA (fun H locs hw => ?_)
  clear hcl
  exact x_zret hx hb hr hlk hw hf dX12_isGood_7

def fX12_isRecipe (p0 : Int32) (σ : xSt) : Option (Int32 × xSt) := (xr σ 1 680 5 fun v1 => (xc2 (fX12_in p0 0 (v1 - 1) σ) fun r2 σ3 => xb r2 (some (r2, σ3))))
abbrev rmX12_isRecipe : Room := { frames := 1, cells := 0, slots := 0, locals := 22 }
set_option maxRecDepth 100000 in
set_option maxHeartbeats 4000000 in
theorem mX12_isRecipe {l : Launch} {E : xE} (hE : E.sh = shM) (p0 : Int32) (σ : xSt) (o1 : Int32) (o2 : xSt) (hf : fX12_isRecipe p0 σ = some (o1, o2)) : xMi l yX12_isRecipe wsX12_isRecipe rmX12_isRecipe E [.ref (E.a 0), .int p0] σ o1 o2 := by
  unfold fX12_isRecipe at hf
  refine xMi_of (cc := cX12_isRecipe) (maxL := 2) (ret := (some .boolean)) (by decide) rfl (Nat.le_of_ble_eq_true rfl) ?_
  intro p e s m args below meth c A ls ⟨hx, hb, hr, hml, hown, hts, hlk⟩ hA hG hw hl
  have hown : s.vm.findClass RX12 = some m.cls := hown
  have hl : lv_has ls 2 [(0, .ref (E.a 0)), (1, .int p0)] := hl
  have hk9 := hts (.fieldLink RX12 9 "OvenRoundModel" "w" "[I") (by decide +kernel)
  have hiX12 : ∀ w ∈ wsX120, w ∈ wsX12_isRecipe := by decide +kernel
  refine lv_iload_n hx hb dX12_isRecipe_0 rfl (lv_at hl 1 rfl) ?_
  refine lv_iconst (v := 0) hx hb dX12_isRecipe_1 (by decide) ?_
  refine lv_aload_n hx hb dX12_isRecipe_2 rfl (lv_at hl 0 rfl) ?_
  refine x_getr hx hb hw (cM0 hE) (own := RX12) (ref := RX12) (C := RX12) (T := TX12) (N := 20) hts hiX12 hown rfl 1 (by decide) hk9 (fun _ h9 => h9) rfl dX12_isRecipe_3 ?_
  refine lv_iconst (v := 5) hx hb dX12_isRecipe_6 (by decide) ?_
  obtain ⟨hin, hf⟩ := xr_f hf
  refine x_iald hx hb hw (cM1 hE) hin dX12_isRecipe_7 ?_
  refine lv_topi (fun v1 ex => ?_)
  replace hf := hf v1 ex
  clear ex hin
  refine lv_iconst (v := 1) hx hb dX12_isRecipe_8 (by decide) ?_
  refine lv_isub hx hb dX12_isRecipe_9 ?_
  obtain ⟨r2, σ3, hcl, hf⟩ := xc2_f hf
  refine x_calli (va_runS (As := [.int p0, .int 0, .int (v1 - 1)]) (rest := []) ⟨hx, hb, hml, hown, hts⟩ (mX12_in hE p0 0 (v1 - 1) σ r2 σ3 hcl s.heap.size) (va_cwS 3 hts gX12_isRecipe_X12_in rfl rfl rfl (by decide +kernel) ⟨Nat.le_of_ble_eq_true rfl, Nat.le_of_ble_eq_true rfl⟩) (x_preS _ hw hA hG) rfl rfl hl.1 rfl (lv_room (Nat.le_of_ble_eq_true rfl)) dX12_isRecipe_10 ⟨Nat.le_of_ble_eq_true rfl, Nat.le_of_ble_eq_true rfl⟩) hw hA (fun H locs hw => ?_)
  clear hcl
  exact x_zret hx hb hr hlk hw hf dX12_isRecipe_13

def fX12_receive_c63 (a1 : Int32) (a2 : Int32) (t0 : Int32) (σ : xSt) : Option (Int32 × xSt) := (xc2 (fX12_can t0 3 σ) fun r10 σ11 => (if r10 = 0 then some (0, σ11) else (xc (fX12_keep σ11) fun σ13 => (xl (11 + a1) fun v14 => (xr σ13 1 680 v14 fun v15 => (xs σ13 1 680 v14 (v15 + a2) fun σ16 => (xr σ16 1 680 8 fun v17 => (xs σ16 1 680 8 (v17 + a2) fun σ18 => (xr σ18 1 680 (11 + a1) fun v19 => some (v19, σ18))))))))))
def fX12_receive_c34 (a1 : Int32) (a2 : Int32) (t0 : Int32) (σ : xSt) : Option (Int32 × xSt) := (xc2 (fX12_can t0 2 σ) fun r7 σ8 => (if r7 = 0 then some (0, σ8) else (xr σ8 1 680 (11 + a1) fun v9 => (if 1000000 < (v9 + a2) then fX12_receive_c63 a1 a2 0 σ8 else fX12_receive_c63 a1 a2 1 σ8))))
def fX12_receive_c33 (a1 : Int32) (a2 : Int32) (σ : xSt) : Option (Int32 × xSt) := fX12_receive_c34 a1 a2 0 σ
def fX12_receive (p0 : Int32) (p1 : Int32) (σ : xSt) : Option (Int32 × xSt) := (xc2 (fX12_isGood p0 σ) fun r1 σ2 => (xc2 (fX12_can r1 1 σ2) fun r3 σ4 => (if r3 = 0 then some (0, σ4) else (if p0 = 7 then fX12_receive_c33 p0 p1 σ4 else (xc2 (fX12_in p1 1 200000 σ4) fun r5 σ6 => (if r5 = 0 then fX12_receive_c33 p0 p1 σ6 else fX12_receive_c34 p0 p1 1 σ6))))))
abbrev rmX12_receive : Room := { frames := 2, cells := 0, slots := 0, locals := 42 }
set_option maxRecDepth 100000 in
set_option maxHeartbeats 4000000 in
theorem mX12_receive {l : Launch} {E : xE} (hE : E.sh = shM) (p0 : Int32) (p1 : Int32) (σ : xSt) (o1 : Int32) (o2 : xSt) (hf : fX12_receive p0 p1 σ = some (o1, o2)) : xMi l yX12_receive wsX12_receive rmX12_receive E [.ref (E.a 0), .int p0, .int p1] σ o1 o2 := by
  unfold fX12_receive at hf
  refine xMi_of (cc := cX12_receive) (maxL := 3) (ret := (some .int)) (by decide) rfl (Nat.le_of_ble_eq_true rfl) ?_
  intro p e s m args below meth c A ls ⟨hx, hb, hr, hml, hown, hts, hlk⟩ hA hG hw hl
  have hown : s.vm.findClass RX12 = some m.cls := hown
  have hl : lv_has ls 3 [(0, .ref (E.a 0)), (1, .int p0), (2, .int p1)] := hl
  have hk9 := hts (.fieldLink RX12 9 "OvenRoundModel" "w" "[I") (by decide +kernel)
  have hiX12 : ∀ w ∈ wsX120, w ∈ wsX12_receive := by decide +kernel
  have h63 : ∀ (a1 : Int32) (a2 : Int32) (t0 : Int32) (σ : xSt) (H : Heap) (locs : List Loc) (ls : Array Slot), xw E A s.heap s σ H locs → lv_has ls 3 [(0, .ref (E.a 0)), (1, .int a1), (2, .int a2)] → fX12_receive_c63 a1 a2 t0 σ = some (o1, o2) → W p l e rmX12_receive s m args below meth c H locs 0 0 (MQ below (xQi E A o1 o2) args s 0 0 A) (F0 m 63 ls [.int t0, .ref (E.a 0)]) := by
    intro a1 a2 t0 σ H locs ls hw hl hf
    unfold fX12_receive_c63 at hf
    refine lv_iconst (v := 3) hx hb dX12_receive_63 (by decide) ?_
    obtain ⟨r10, σ11, hcl, hf⟩ := xc2_f hf
    refine x_calli (va_runV (As := [.int t0, .int 3]) (rest := []) ⟨hx, hb, hml, hown, hts⟩ (mX12_can hE t0 3 σ r10 σ11 hcl H.size) (cwV 2 hts gX12_receive_X12_can rfl rfl rfl (by decide +kernel) ⟨Nat.le_of_ble_eq_true rfl, Nat.le_of_ble_eq_true rfl⟩) (x_preV _ hw hA hG (cM0 hE) rfl) rfl rfl hl.1 rfl (lv_room (Nat.le_of_ble_eq_true rfl)) dX12_receive_64 ⟨Nat.le_of_ble_eq_true rfl, Nat.le_of_ble_eq_true rfl⟩) hw hA (fun H locs hw => ?_)
    clear hcl
    refine lv_if_ne (tgt := 72) hx hb dX12_receive_67 (by decide) (fun c67 => ?_) (fun c67 => ?_)
    · replace hf := xif_neg c67 hf
      refine lv_aload_n hx hb dX12_receive_72 rfl (lv_at hl 0 rfl) ?_
      obtain ⟨σ13, hcl, hf⟩ := xc_e hf
      refine x_callv (va_runV (As := []) (rest := []) ⟨hx, hb, hml, hown, hts⟩ (mX12_keep hE σ11 σ13 hcl H.size) (cwV 0 hts gX12_receive_X12_keep rfl rfl rfl (by decide +kernel) ⟨Nat.le_of_ble_eq_true rfl, Nat.le_of_ble_eq_true rfl⟩) (x_preV _ hw hA hG (cM0 hE) rfl) rfl rfl hl.1 rfl (lv_room (Nat.le_of_ble_eq_true rfl)) dX12_receive_73 ⟨Nat.le_of_ble_eq_true rfl, Nat.le_of_ble_eq_true rfl⟩) hw hA (fun H locs hw => ?_)
      clear hcl
      refine lv_aload_n hx hb dX12_receive_76 rfl (lv_at hl 0 rfl) ?_
      refine x_getr hx hb hw (cM0 hE) (own := RX12) (ref := RX12) (C := RX12) (T := TX12) (N := 20) hts hiX12 hown rfl 1 (by decide) hk9 (fun _ h9 => h9) rfl dX12_receive_77 ?_
      refine lv_bipush (v := 11) hx hb dX12_receive_80 (by decide) ?_
      refine lv_iload_n hx hb dX12_receive_82 rfl (lv_at hl 1 rfl) ?_
      refine lv_iadd hx hb dX12_receive_83 ?_
      refine lv_topi (fun v14 ex => ?_)
      replace hf := xl_f hf v14 ex
      clear ex
      refine lv_dup2_11 hx hb dX12_receive_84 rfl rfl ?_
      obtain ⟨hin, hf⟩ := xr_f hf
      refine x_iald hx hb hw (cM1 hE) hin dX12_receive_85 ?_
      refine lv_topi (fun v15 ex => ?_)
      replace hf := hf v15 ex
      clear ex hin
      refine lv_iload_n hx hb dX12_receive_86 rfl (lv_at hl 2 rfl) ?_
      refine lv_iadd hx hb dX12_receive_87 ?_
      obtain ⟨hin, hf⟩ := xs_f hf
      refine x_iast hx hb hw (cM1 hE) hin dX12_receive_88 (fun σ16 H locs ex hw => ?_)
      replace hf := hf σ16 ex
      clear ex hin
      refine lv_aload_n hx hb dX12_receive_89 rfl (lv_at hl 0 rfl) ?_
      refine x_getr hx hb hw (cM0 hE) (own := RX12) (ref := RX12) (C := RX12) (T := TX12) (N := 20) hts hiX12 hown rfl 1 (by decide) hk9 (fun _ h9 => h9) rfl dX12_receive_90 ?_
      refine lv_bipush (v := 8) hx hb dX12_receive_93 (by decide) ?_
      refine lv_dup2_11 hx hb dX12_receive_95 rfl rfl ?_
      obtain ⟨hin, hf⟩ := xr_f hf
      refine x_iald hx hb hw (cM1 hE) hin dX12_receive_96 ?_
      refine lv_topi (fun v17 ex => ?_)
      replace hf := hf v17 ex
      clear ex hin
      refine lv_iload_n hx hb dX12_receive_97 rfl (lv_at hl 2 rfl) ?_
      refine lv_iadd hx hb dX12_receive_98 ?_
      obtain ⟨hin, hf⟩ := xs_f hf
      refine x_iast hx hb hw (cM1 hE) hin dX12_receive_99 (fun σ18 H locs ex hw => ?_)
      replace hf := hf σ18 ex
      clear ex hin
      refine lv_aload_n hx hb dX12_receive_100 rfl (lv_at hl 0 rfl) ?_
      refine x_getr hx hb hw (cM0 hE) (own := RX12) (ref := RX12) (C := RX12) (T := TX12) (N := 20) hts hiX12 hown rfl 1 (by decide) hk9 (fun _ h9 => h9) rfl dX12_receive_101 ?_
      refine lv_bipush (v := 11) hx hb dX12_receive_104 (by decide) ?_
      refine lv_iload_n hx hb dX12_receive_106 rfl (lv_at hl 1 rfl) ?_
      refine lv_iadd hx hb dX12_receive_107 ?_
      obtain ⟨hin, hf⟩ := xr_f hf
      refine x_iald hx hb hw (cM1 hE) hin dX12_receive_108 ?_
      refine lv_topi (fun v19 ex => ?_)
      replace hf := hf v19 ex
      clear ex hin
      exact x_iret hx hb hr hlk hw hf dX12_receive_109
    · replace hf := xif_pos c67 hf
      refine lv_iconst (v := 0) hx hb dX12_receive_70 (by decide) ?_
      exact x_iret hx hb hr hlk hw hf dX12_receive_71
  have h34 : ∀ (a1 : Int32) (a2 : Int32) (t0 : Int32) (σ : xSt) (H : Heap) (locs : List Loc) (ls : Array Slot), xw E A s.heap s σ H locs → lv_has ls 3 [(0, .ref (E.a 0)), (1, .int a1), (2, .int a2)] → fX12_receive_c34 a1 a2 t0 σ = some (o1, o2) → W p l e rmX12_receive s m args below meth c H locs 0 0 (MQ below (xQi E A o1 o2) args s 0 0 A) (F0 m 34 ls [.int t0, .ref (E.a 0)]) := by
    intro a1 a2 t0 σ H locs ls hw hl hf
    unfold fX12_receive_c34 at hf
    refine lv_iconst (v := 2) hx hb dX12_receive_34 (by decide) ?_
    obtain ⟨r7, σ8, hcl, hf⟩ := xc2_f hf
    refine x_calli (va_runV (As := [.int t0, .int 2]) (rest := []) ⟨hx, hb, hml, hown, hts⟩ (mX12_can hE t0 2 σ r7 σ8 hcl H.size) (cwV 2 hts gX12_receive_X12_can rfl rfl rfl (by decide +kernel) ⟨Nat.le_of_ble_eq_true rfl, Nat.le_of_ble_eq_true rfl⟩) (x_preV _ hw hA hG (cM0 hE) rfl) rfl rfl hl.1 rfl (lv_room (Nat.le_of_ble_eq_true rfl)) dX12_receive_35 ⟨Nat.le_of_ble_eq_true rfl, Nat.le_of_ble_eq_true rfl⟩) hw hA (fun H locs hw => ?_)
    clear hcl
    refine lv_if_eq (tgt := 70) hx hb dX12_receive_38 (by decide) (fun c38 => ?_) (fun c38 => ?_)
    · replace hf := xif_pos c38 hf
      refine lv_iconst (v := 0) hx hb dX12_receive_70 (by decide) ?_
      exact x_iret hx hb hr hlk hw hf dX12_receive_71
    · replace hf := xif_neg c38 hf
      refine lv_aload_n hx hb dX12_receive_41 rfl (lv_at hl 0 rfl) ?_
      refine lv_aload_n hx hb dX12_receive_42 rfl (lv_at hl 0 rfl) ?_
      refine x_getr hx hb hw (cM0 hE) (own := RX12) (ref := RX12) (C := RX12) (T := TX12) (N := 20) hts hiX12 hown rfl 1 (by decide) hk9 (fun _ h9 => h9) rfl dX12_receive_43 ?_
      refine lv_bipush (v := 11) hx hb dX12_receive_46 (by decide) ?_
      refine lv_iload_n hx hb dX12_receive_48 rfl (lv_at hl 1 rfl) ?_
      refine lv_iadd hx hb dX12_receive_49 ?_
      obtain ⟨hin, hf⟩ := xr_f hf
      refine x_iald hx hb hw (cM1 hE) hin dX12_receive_50 ?_
      refine lv_topi (fun v9 ex => ?_)
      replace hf := hf v9 ex
      clear ex hin
      refine lv_iload_n hx hb dX12_receive_51 rfl (lv_at hl 2 rfl) ?_
      refine lv_iadd hx hb dX12_receive_52 ?_
      refine lv_ldc hx hb hown (hts (.constant RX12 73 (1000000)) (by decide +kernel)) dX12_receive_53 ?_
      refine lv_icmp_gt (tgt := 62) hx hb dX12_receive_55 (by decide) (fun c55 => ?_) (fun c55 => ?_)
      · replace hf := xif_pos c55 hf
        refine lv_iconst (v := 0) hx hb dX12_receive_62 (by decide) ?_
        exact h63 a1 a2 0 σ8 _ _ _ hw (lv_sub hl [0, 1, 2] rfl) hf
      · replace hf := xif_neg c55 hf
        refine lv_iconst (v := 1) hx hb dX12_receive_58 (by decide) ?_
        refine lv_goto (tgt := 63) hx hb dX12_receive_59 (by decide) ?_
        exact h63 a1 a2 1 σ8 _ _ _ hw (lv_sub hl [0, 1, 2] rfl) hf
  have h33 : ∀ (a1 : Int32) (a2 : Int32) (σ : xSt) (H : Heap) (locs : List Loc) (ls : Array Slot), xw E A s.heap s σ H locs → lv_has ls 3 [(0, .ref (E.a 0)), (1, .int a1), (2, .int a2)] → fX12_receive_c33 a1 a2 σ = some (o1, o2) → W p l e rmX12_receive s m args below meth c H locs 0 0 (MQ below (xQi E A o1 o2) args s 0 0 A) (F0 m 33 ls [.ref (E.a 0)]) := by
    intro a1 a2 σ H locs ls hw hl hf
    unfold fX12_receive_c33 at hf
    refine lv_iconst (v := 0) hx hb dX12_receive_33 (by decide) ?_
    exact h34 a1 a2 0 σ _ _ _ hw (lv_sub hl [0, 1, 2] rfl) hf
  refine lv_aload_n hx hb dX12_receive_0 rfl (lv_at hl 0 rfl) ?_
  refine lv_iload_n hx hb dX12_receive_1 rfl (lv_at hl 1 rfl) ?_
  obtain ⟨r1, σ2, hcl, hf⟩ := xc2_f hf
  refine x_calli (va_runS (As := [.int p0]) (rest := [.ref (E.a 0)]) ⟨hx, hb, hml, hown, hts⟩ (mX12_isGood hE p0 σ r1 σ2 hcl s.heap.size) (va_cwS 1 hts gX12_receive_X12_isGood rfl rfl rfl (by decide +kernel) ⟨Nat.le_of_ble_eq_true rfl, Nat.le_of_ble_eq_true rfl⟩) (x_preS _ hw hA hG) rfl rfl hl.1 rfl (lv_room (Nat.le_of_ble_eq_true rfl)) dX12_receive_2 ⟨Nat.le_of_ble_eq_true rfl, Nat.le_of_ble_eq_true rfl⟩) hw hA (fun H locs hw => ?_)
  clear hcl
  refine lv_iconst (v := 1) hx hb dX12_receive_5 (by decide) ?_
  obtain ⟨r3, σ4, hcl, hf⟩ := xc2_f hf
  refine x_calli (va_runV (As := [.int r1, .int 1]) (rest := []) ⟨hx, hb, hml, hown, hts⟩ (mX12_can hE r1 1 σ2 r3 σ4 hcl H.size) (cwV 2 hts gX12_receive_X12_can rfl rfl rfl (by decide +kernel) ⟨Nat.le_of_ble_eq_true rfl, Nat.le_of_ble_eq_true rfl⟩) (x_preV _ hw hA hG (cM0 hE) rfl) rfl rfl hl.1 rfl (lv_room (Nat.le_of_ble_eq_true rfl)) dX12_receive_6 ⟨Nat.le_of_ble_eq_true rfl, Nat.le_of_ble_eq_true rfl⟩) hw hA (fun H locs hw => ?_)
  clear hcl
  refine lv_if_eq (tgt := 70) hx hb dX12_receive_9 (by decide) (fun c9 => ?_) (fun c9 => ?_)
  · replace hf := xif_pos c9 hf
    refine lv_iconst (v := 0) hx hb dX12_receive_70 (by decide) ?_
    exact x_iret hx hb hr hlk hw hf dX12_receive_71
  · replace hf := xif_neg c9 hf
    refine lv_aload_n hx hb dX12_receive_12 rfl (lv_at hl 0 rfl) ?_
    refine lv_iload_n hx hb dX12_receive_13 rfl (lv_at hl 1 rfl) ?_
    refine lv_bipush (v := 7) hx hb dX12_receive_14 (by decide) ?_
    refine lv_icmp_eq (tgt := 33) hx hb dX12_receive_16 (by decide) (fun c16 => ?_) (fun c16 => ?_)
    · replace hf := xif_pos c16 hf
      exact h33 p0 p1 σ4 _ _ _ hw (lv_sub hl [0, 1, 2] rfl) hf
    · replace hf := xif_neg c16 hf
      refine lv_iload_n hx hb dX12_receive_19 rfl (lv_at hl 2 rfl) ?_
      refine lv_iconst (v := 1) hx hb dX12_receive_20 (by decide) ?_
      refine lv_ldc hx hb hown (hts (.constant RX12 72 (200000)) (by decide +kernel)) dX12_receive_21 ?_
      obtain ⟨r5, σ6, hcl, hf⟩ := xc2_f hf
      refine x_calli (va_runS (As := [.int p1, .int 1, .int 200000]) (rest := [.ref (E.a 0)]) ⟨hx, hb, hml, hown, hts⟩ (mX12_in hE p1 1 200000 σ4 r5 σ6 hcl H.size) (va_cwS 3 hts gX12_receive_X12_in rfl rfl rfl (by decide +kernel) ⟨Nat.le_of_ble_eq_true rfl, Nat.le_of_ble_eq_true rfl⟩) (x_preS _ hw hA hG) rfl rfl hl.1 rfl (lv_room (Nat.le_of_ble_eq_true rfl)) dX12_receive_23 ⟨Nat.le_of_ble_eq_true rfl, Nat.le_of_ble_eq_true rfl⟩) hw hA (fun H locs hw => ?_)
      clear hcl
      refine lv_if_eq (tgt := 33) hx hb dX12_receive_26 (by decide) (fun c26 => ?_) (fun c26 => ?_)
      · replace hf := xif_pos c26 hf
        exact h33 p0 p1 σ6 _ _ _ hw (lv_sub hl [0, 1, 2] rfl) hf
      · replace hf := xif_neg c26 hf
        refine lv_iconst (v := 1) hx hb dX12_receive_29 (by decide) ?_
        refine lv_goto (tgt := 34) hx hb dX12_receive_30 (by decide) ?_
        exact h34 p0 p1 1 σ6 _ _ _ hw (lv_sub hl [0, 1, 2] rfl) hf

def fX12_store (p0 : Int32) (σ : xSt) : Option (Int32 × xSt) := (xc2 (fX12_isGood p0 σ) fun r1 σ2 => (xc2 (fX12_can r1 1 σ2) fun r3 σ4 => (if r3 = 0 then some (0, σ4) else (xr σ4 1 680 (11 + p0) fun v5 => some (v5, σ4)))))
abbrev rmX12_store : Room := { frames := 2, cells := 0, slots := 0, locals := 42 }
set_option maxRecDepth 100000 in
set_option maxHeartbeats 4000000 in
theorem mX12_store {l : Launch} {E : xE} (hE : E.sh = shM) (p0 : Int32) (σ : xSt) (o1 : Int32) (o2 : xSt) (hf : fX12_store p0 σ = some (o1, o2)) : xMi l yX12_store wsX12_store rmX12_store E [.ref (E.a 0), .int p0] σ o1 o2 := by
  unfold fX12_store at hf
  refine xMi_of (cc := cX12_store) (maxL := 2) (ret := (some .int)) (by decide) rfl (Nat.le_of_ble_eq_true rfl) ?_
  intro p e s m args below meth c A ls ⟨hx, hb, hr, hml, hown, hts, hlk⟩ hA hG hw hl
  have hown : s.vm.findClass RX12 = some m.cls := hown
  have hl : lv_has ls 2 [(0, .ref (E.a 0)), (1, .int p0)] := hl
  have hk9 := hts (.fieldLink RX12 9 "OvenRoundModel" "w" "[I") (by decide +kernel)
  have hiX12 : ∀ w ∈ wsX120, w ∈ wsX12_store := by decide +kernel
  refine lv_aload_n hx hb dX12_store_0 rfl (lv_at hl 0 rfl) ?_
  refine lv_iload_n hx hb dX12_store_1 rfl (lv_at hl 1 rfl) ?_
  obtain ⟨r1, σ2, hcl, hf⟩ := xc2_f hf
  refine x_calli (va_runS (As := [.int p0]) (rest := [.ref (E.a 0)]) ⟨hx, hb, hml, hown, hts⟩ (mX12_isGood hE p0 σ r1 σ2 hcl s.heap.size) (va_cwS 1 hts gX12_store_X12_isGood rfl rfl rfl (by decide +kernel) ⟨Nat.le_of_ble_eq_true rfl, Nat.le_of_ble_eq_true rfl⟩) (x_preS _ hw hA hG) rfl rfl hl.1 rfl (lv_room (Nat.le_of_ble_eq_true rfl)) dX12_store_2 ⟨Nat.le_of_ble_eq_true rfl, Nat.le_of_ble_eq_true rfl⟩) hw hA (fun H locs hw => ?_)
  clear hcl
  refine lv_iconst (v := 1) hx hb dX12_store_5 (by decide) ?_
  obtain ⟨r3, σ4, hcl, hf⟩ := xc2_f hf
  refine x_calli (va_runV (As := [.int r1, .int 1]) (rest := []) ⟨hx, hb, hml, hown, hts⟩ (mX12_can hE r1 1 σ2 r3 σ4 hcl H.size) (cwV 2 hts gX12_store_X12_can rfl rfl rfl (by decide +kernel) ⟨Nat.le_of_ble_eq_true rfl, Nat.le_of_ble_eq_true rfl⟩) (x_preV _ hw hA hG (cM0 hE) rfl) rfl rfl hl.1 rfl (lv_room (Nat.le_of_ble_eq_true rfl)) dX12_store_6 ⟨Nat.le_of_ble_eq_true rfl, Nat.le_of_ble_eq_true rfl⟩) hw hA (fun H locs hw => ?_)
  clear hcl
  refine lv_if_eq (tgt := 24) hx hb dX12_store_9 (by decide) (fun c9 => ?_) (fun c9 => ?_)
  · replace hf := xif_pos c9 hf
    refine lv_iconst (v := 0) hx hb dX12_store_24 (by decide) ?_
    exact x_iret hx hb hr hlk hw hf dX12_store_25
  · replace hf := xif_neg c9 hf
    refine lv_aload_n hx hb dX12_store_12 rfl (lv_at hl 0 rfl) ?_
    refine x_getr hx hb hw (cM0 hE) (own := RX12) (ref := RX12) (C := RX12) (T := TX12) (N := 20) hts hiX12 hown rfl 1 (by decide) hk9 (fun _ h9 => h9) rfl dX12_store_13 ?_
    refine lv_bipush (v := 11) hx hb dX12_store_16 (by decide) ?_
    refine lv_iload_n hx hb dX12_store_18 rfl (lv_at hl 1 rfl) ?_
    refine lv_iadd hx hb dX12_store_19 ?_
    obtain ⟨hin, hf⟩ := xr_f hf
    refine x_iald hx hb hw (cM1 hE) hin dX12_store_20 ?_
    refine lv_topi (fun v5 ex => ?_)
    replace hf := hf v5 ex
    clear ex hin
    refine lv_goto (tgt := 25) hx hb dX12_store_21 (by decide) ?_
    exact x_iret hx hb hr hlk hw hf dX12_store_25

def fX12_addRecipe_c88 (a1 : Int32) (a2 : Int32) (a3 : Int32) (a4 : Int32) (a5 : Int32) (t0 : Int32) (σ : xSt) : Option (Int32 × xSt) := (xc2 (fX12_can t0 2 σ) fun r14 σ15 => (if r14 = 0 then some (0, σ15) else (xc (fX12_keep σ15) fun σ17 => (xr σ17 1 680 5 fun v18 => (xr σ17 1 680 5 fun v19 => (xs σ17 1 680 5 (v19 + 1) fun σ20 => (xs σ20 1 680 (19 + v18) a1 fun σ21 => (xs σ21 1 680 (25 + v18) a2 fun σ22 => (xs σ22 1 680 (31 + v18) a3 fun σ23 => (xs σ23 1 680 (37 + v18) a4 fun σ24 => (xs σ24 1 680 (43 + v18) a5 fun σ25 => (xs σ25 1 680 (49 + v18) 20 fun σ26 => some (v18, σ26)))))))))))))
def fX12_addRecipe_c64 (a1 : Int32) (a2 : Int32) (a3 : Int32) (a4 : Int32) (a5 : Int32) (t0 : Int32) (σ : xSt) : Option (Int32 × xSt) := (xc2 (fX12_can t0 1 σ) fun r11 σ12 => (if r11 = 0 then some (0, σ12) else (xr σ12 1 680 5 fun v13 => (if 6 ≤ v13 then fX12_addRecipe_c88 a1 a2 a3 a4 a5 0 σ12 else fX12_addRecipe_c88 a1 a2 a3 a4 a5 1 σ12))))
def fX12_addRecipe_c63 (a1 : Int32) (a2 : Int32) (a3 : Int32) (a4 : Int32) (a5 : Int32) (σ : xSt) : Option (Int32 × xSt) := fX12_addRecipe_c64 a1 a2 a3 a4 a5 0 σ
def fX12_addRecipe (p0 : Int32) (p1 : Int32) (p2 : Int32) (p3 : Int32) (p4 : Int32) (σ : xSt) : Option (Int32 × xSt) := (xc2 (fX12_in p0 50 2000 σ) fun r1 σ2 => (if r1 = 0 then fX12_addRecipe_c63 p0 p1 p2 p3 p4 σ2 else (xc2 (fX12_in p1 1 200 σ2) fun r3 σ4 => (if r3 = 0 then fX12_addRecipe_c63 p0 p1 p2 p3 p4 σ4 else (xc2 (fX12_in p2 p1 200 σ4) fun r5 σ6 => (if r5 = 0 then fX12_addRecipe_c63 p0 p1 p2 p3 p4 σ6 else (xc2 (fX12_in p3 100 300 σ6) fun r7 σ8 => (if r7 = 0 then fX12_addRecipe_c63 p0 p1 p2 p3 p4 σ8 else (xc2 (fX12_in p4 0 15 σ8) fun r9 σ10 => (if r9 = 0 then fX12_addRecipe_c63 p0 p1 p2 p3 p4 σ10 else fX12_addRecipe_c64 p0 p1 p2 p3 p4 1 σ10))))))))))
abbrev rmX12_addRecipe : Room := { frames := 2, cells := 0, slots := 0, locals := 42 }
set_option maxRecDepth 100000 in
set_option maxHeartbeats 4000000 in
theorem mX12_addRecipe {l : Launch} {E : xE} (hE : E.sh = shM) (p0 : Int32) (p1 : Int32) (p2 : Int32) (p3 : Int32) (p4 : Int32) (σ : xSt) (o1 : Int32) (o2 : xSt) (hf : fX12_addRecipe p0 p1 p2 p3 p4 σ = some (o1, o2)) : xMi l yX12_addRecipe wsX12_addRecipe rmX12_addRecipe E [.ref (E.a 0), .int p0, .int p1, .int p2, .int p3, .int p4] σ o1 o2 := by
  unfold fX12_addRecipe at hf
  refine xMi_of (cc := cX12_addRecipe) (maxL := 7) (ret := (some .int)) (by decide) rfl (Nat.le_of_ble_eq_true rfl) ?_
  intro p e s m args below meth c A ls ⟨hx, hb, hr, hml, hown, hts, hlk⟩ hA hG hw hl
  have hown : s.vm.findClass RX12 = some m.cls := hown
  have hl : lv_has ls 7 [(0, .ref (E.a 0)), (1, .int p0), (2, .int p1), (3, .int p2), (4, .int p3), (5, .int p4)] := hl
  have hk9 := hts (.fieldLink RX12 9 "OvenRoundModel" "w" "[I") (by decide +kernel)
  have hiX12 : ∀ w ∈ wsX120, w ∈ wsX12_addRecipe := by decide +kernel
  have h88 : ∀ (a1 : Int32) (a2 : Int32) (a3 : Int32) (a4 : Int32) (a5 : Int32) (t0 : Int32) (σ : xSt) (H : Heap) (locs : List Loc) (ls : Array Slot), xw E A s.heap s σ H locs → lv_has ls 7 [(0, .ref (E.a 0)), (1, .int a1), (2, .int a2), (3, .int a3), (4, .int a4), (5, .int a5)] → fX12_addRecipe_c88 a1 a2 a3 a4 a5 t0 σ = some (o1, o2) → W p l e rmX12_addRecipe s m args below meth c H locs 0 0 (MQ below (xQi E A o1 o2) args s 0 0 A) (F0 m 88 ls [.int t0, .ref (E.a 0)]) := by
    intro a1 a2 a3 a4 a5 t0 σ H locs ls hw hl hf
    unfold fX12_addRecipe_c88 at hf
    refine lv_iconst (v := 2) hx hb dX12_addRecipe_88 (by decide) ?_
    obtain ⟨r14, σ15, hcl, hf⟩ := xc2_f hf
    refine x_calli (va_runV (As := [.int t0, .int 2]) (rest := []) ⟨hx, hb, hml, hown, hts⟩ (mX12_can hE t0 2 σ r14 σ15 hcl H.size) (cwV 2 hts gX12_addRecipe_X12_can rfl rfl rfl (by decide +kernel) ⟨Nat.le_of_ble_eq_true rfl, Nat.le_of_ble_eq_true rfl⟩) (x_preV _ hw hA hG (cM0 hE) rfl) rfl rfl hl.1 rfl (lv_room (Nat.le_of_ble_eq_true rfl)) dX12_addRecipe_89 ⟨Nat.le_of_ble_eq_true rfl, Nat.le_of_ble_eq_true rfl⟩) hw hA (fun H locs hw => ?_)
    clear hcl
    refine lv_if_ne (tgt := 97) hx hb dX12_addRecipe_92 (by decide) (fun c92 => ?_) (fun c92 => ?_)
    · replace hf := xif_neg c92 hf
      refine lv_aload_n hx hb dX12_addRecipe_97 rfl (lv_at hl 0 rfl) ?_
      obtain ⟨σ17, hcl, hf⟩ := xc_e hf
      refine x_callv (va_runV (As := []) (rest := []) ⟨hx, hb, hml, hown, hts⟩ (mX12_keep hE σ15 σ17 hcl H.size) (cwV 0 hts gX12_addRecipe_X12_keep rfl rfl rfl (by decide +kernel) ⟨Nat.le_of_ble_eq_true rfl, Nat.le_of_ble_eq_true rfl⟩) (x_preV _ hw hA hG (cM0 hE) rfl) rfl rfl hl.1 rfl (lv_room (Nat.le_of_ble_eq_true rfl)) dX12_addRecipe_98 ⟨Nat.le_of_ble_eq_true rfl, Nat.le_of_ble_eq_true rfl⟩) hw hA (fun H locs hw => ?_)
      clear hcl
      refine lv_aload_n hx hb dX12_addRecipe_101 rfl (lv_at hl 0 rfl) ?_
      refine x_getr hx hb hw (cM0 hE) (own := RX12) (ref := RX12) (C := RX12) (T := TX12) (N := 20) hts hiX12 hown rfl 1 (by decide) hk9 (fun _ h9 => h9) rfl dX12_addRecipe_102 ?_
      refine lv_iconst (v := 5) hx hb dX12_addRecipe_105 (by decide) ?_
      obtain ⟨hin, hf⟩ := xr_f hf
      refine x_iald hx hb hw (cM1 hE) hin dX12_addRecipe_106 ?_
      refine lv_topi (fun v18 ex => ?_)
      replace hf := hf v18 ex
      clear ex hin
      refine lv_istore (lv' := [(6, .int v18), (0, .ref (E.a 0)), (1, .int a1), (2, .int a2), (3, .int a3), (4, .int a4), (5, .int a5)]) hx hb dX12_addRecipe_107 hl (by decide) rfl (fun ls hl => ?_)
      refine lv_aload_n hx hb dX12_addRecipe_109 rfl (lv_at hl 1 rfl) ?_
      refine x_getr hx hb hw (cM0 hE) (own := RX12) (ref := RX12) (C := RX12) (T := TX12) (N := 20) hts hiX12 hown rfl 1 (by decide) hk9 (fun _ h9 => h9) rfl dX12_addRecipe_110 ?_
      refine lv_iconst (v := 5) hx hb dX12_addRecipe_113 (by decide) ?_
      refine lv_dup2_11 hx hb dX12_addRecipe_114 rfl rfl ?_
      obtain ⟨hin, hf⟩ := xr_f hf
      refine x_iald hx hb hw (cM1 hE) hin dX12_addRecipe_115 ?_
      refine lv_topi (fun v19 ex => ?_)
      replace hf := hf v19 ex
      clear ex hin
      refine lv_iconst (v := 1) hx hb dX12_addRecipe_116 (by decide) ?_
      refine lv_iadd hx hb dX12_addRecipe_117 ?_
      obtain ⟨hin, hf⟩ := xs_f hf
      refine x_iast hx hb hw (cM1 hE) hin dX12_addRecipe_118 (fun σ20 H locs ex hw => ?_)
      replace hf := hf σ20 ex
      clear ex hin
      refine lv_aload_n hx hb dX12_addRecipe_119 rfl (lv_at hl 1 rfl) ?_
      refine x_getr hx hb hw (cM0 hE) (own := RX12) (ref := RX12) (C := RX12) (T := TX12) (N := 20) hts hiX12 hown rfl 1 (by decide) hk9 (fun _ h9 => h9) rfl dX12_addRecipe_120 ?_
      refine lv_bipush (v := 19) hx hb dX12_addRecipe_123 (by decide) ?_
      refine lv_iload hx hb dX12_addRecipe_125 (lv_at hl 0 rfl) ?_
      refine lv_iadd hx hb dX12_addRecipe_127 ?_
      refine lv_iload_n hx hb dX12_addRecipe_128 rfl (lv_at hl 2 rfl) ?_
      obtain ⟨hin, hf⟩ := xs_f hf
      refine x_iast hx hb hw (cM1 hE) hin dX12_addRecipe_129 (fun σ21 H locs ex hw => ?_)
      replace hf := hf σ21 ex
      clear ex hin
      refine lv_aload_n hx hb dX12_addRecipe_130 rfl (lv_at hl 1 rfl) ?_
      refine x_getr hx hb hw (cM0 hE) (own := RX12) (ref := RX12) (C := RX12) (T := TX12) (N := 20) hts hiX12 hown rfl 1 (by decide) hk9 (fun _ h9 => h9) rfl dX12_addRecipe_131 ?_
      refine lv_bipush (v := 25) hx hb dX12_addRecipe_134 (by decide) ?_
      refine lv_iload hx hb dX12_addRecipe_136 (lv_at hl 0 rfl) ?_
      refine lv_iadd hx hb dX12_addRecipe_138 ?_
      refine lv_iload_n hx hb dX12_addRecipe_139 rfl (lv_at hl 3 rfl) ?_
      obtain ⟨hin, hf⟩ := xs_f hf
      refine x_iast hx hb hw (cM1 hE) hin dX12_addRecipe_140 (fun σ22 H locs ex hw => ?_)
      replace hf := hf σ22 ex
      clear ex hin
      refine lv_aload_n hx hb dX12_addRecipe_141 rfl (lv_at hl 1 rfl) ?_
      refine x_getr hx hb hw (cM0 hE) (own := RX12) (ref := RX12) (C := RX12) (T := TX12) (N := 20) hts hiX12 hown rfl 1 (by decide) hk9 (fun _ h9 => h9) rfl dX12_addRecipe_142 ?_
      refine lv_bipush (v := 31) hx hb dX12_addRecipe_145 (by decide) ?_
      refine lv_iload hx hb dX12_addRecipe_147 (lv_at hl 0 rfl) ?_
      refine lv_iadd hx hb dX12_addRecipe_149 ?_
      refine lv_iload_n hx hb dX12_addRecipe_150 rfl (lv_at hl 4 rfl) ?_
      obtain ⟨hin, hf⟩ := xs_f hf
      refine x_iast hx hb hw (cM1 hE) hin dX12_addRecipe_151 (fun σ23 H locs ex hw => ?_)
      replace hf := hf σ23 ex
      clear ex hin
      refine lv_aload_n hx hb dX12_addRecipe_152 rfl (lv_at hl 1 rfl) ?_
      refine x_getr hx hb hw (cM0 hE) (own := RX12) (ref := RX12) (C := RX12) (T := TX12) (N := 20) hts hiX12 hown rfl 1 (by decide) hk9 (fun _ h9 => h9) rfl dX12_addRecipe_153 ?_
      refine lv_bipush (v := 37) hx hb dX12_addRecipe_156 (by decide) ?_
      refine lv_iload hx hb dX12_addRecipe_158 (lv_at hl 0 rfl) ?_
      refine lv_iadd hx hb dX12_addRecipe_160 ?_
      refine lv_iload hx hb dX12_addRecipe_161 (lv_at hl 5 rfl) ?_
      obtain ⟨hin, hf⟩ := xs_f hf
      refine x_iast hx hb hw (cM1 hE) hin dX12_addRecipe_163 (fun σ24 H locs ex hw => ?_)
      replace hf := hf σ24 ex
      clear ex hin
      refine lv_aload_n hx hb dX12_addRecipe_164 rfl (lv_at hl 1 rfl) ?_
      refine x_getr hx hb hw (cM0 hE) (own := RX12) (ref := RX12) (C := RX12) (T := TX12) (N := 20) hts hiX12 hown rfl 1 (by decide) hk9 (fun _ h9 => h9) rfl dX12_addRecipe_165 ?_
      refine lv_bipush (v := 43) hx hb dX12_addRecipe_168 (by decide) ?_
      refine lv_iload hx hb dX12_addRecipe_170 (lv_at hl 0 rfl) ?_
      refine lv_iadd hx hb dX12_addRecipe_172 ?_
      refine lv_iload hx hb dX12_addRecipe_173 (lv_at hl 6 rfl) ?_
      obtain ⟨hin, hf⟩ := xs_f hf
      refine x_iast hx hb hw (cM1 hE) hin dX12_addRecipe_175 (fun σ25 H locs ex hw => ?_)
      replace hf := hf σ25 ex
      clear ex hin
      refine lv_aload_n hx hb dX12_addRecipe_176 rfl (lv_at hl 1 rfl) ?_
      refine x_getr hx hb hw (cM0 hE) (own := RX12) (ref := RX12) (C := RX12) (T := TX12) (N := 20) hts hiX12 hown rfl 1 (by decide) hk9 (fun _ h9 => h9) rfl dX12_addRecipe_177 ?_
      refine lv_bipush (v := 49) hx hb dX12_addRecipe_180 (by decide) ?_
      refine lv_iload hx hb dX12_addRecipe_182 (lv_at hl 0 rfl) ?_
      refine lv_iadd hx hb dX12_addRecipe_184 ?_
      refine lv_bipush (v := 20) hx hb dX12_addRecipe_185 (by decide) ?_
      obtain ⟨hin, hf⟩ := xs_f hf
      refine x_iast hx hb hw (cM1 hE) hin dX12_addRecipe_187 (fun σ26 H locs ex hw => ?_)
      replace hf := hf σ26 ex
      clear ex hin
      refine lv_iload hx hb dX12_addRecipe_188 (lv_at hl 0 rfl) ?_
      exact x_iret hx hb hr hlk hw hf dX12_addRecipe_190
    · replace hf := xif_pos c92 hf
      refine lv_iconst (v := 0) hx hb dX12_addRecipe_95 (by decide) ?_
      exact x_iret hx hb hr hlk hw hf dX12_addRecipe_96
  have h64 : ∀ (a1 : Int32) (a2 : Int32) (a3 : Int32) (a4 : Int32) (a5 : Int32) (t0 : Int32) (σ : xSt) (H : Heap) (locs : List Loc) (ls : Array Slot), xw E A s.heap s σ H locs → lv_has ls 7 [(0, .ref (E.a 0)), (1, .int a1), (2, .int a2), (3, .int a3), (4, .int a4), (5, .int a5)] → fX12_addRecipe_c64 a1 a2 a3 a4 a5 t0 σ = some (o1, o2) → W p l e rmX12_addRecipe s m args below meth c H locs 0 0 (MQ below (xQi E A o1 o2) args s 0 0 A) (F0 m 64 ls [.int t0, .ref (E.a 0)]) := by
    intro a1 a2 a3 a4 a5 t0 σ H locs ls hw hl hf
    unfold fX12_addRecipe_c64 at hf
    refine lv_iconst (v := 1) hx hb dX12_addRecipe_64 (by decide) ?_
    obtain ⟨r11, σ12, hcl, hf⟩ := xc2_f hf
    refine x_calli (va_runV (As := [.int t0, .int 1]) (rest := []) ⟨hx, hb, hml, hown, hts⟩ (mX12_can hE t0 1 σ r11 σ12 hcl H.size) (cwV 2 hts gX12_addRecipe_X12_can rfl rfl rfl (by decide +kernel) ⟨Nat.le_of_ble_eq_true rfl, Nat.le_of_ble_eq_true rfl⟩) (x_preV _ hw hA hG (cM0 hE) rfl) rfl rfl hl.1 rfl (lv_room (Nat.le_of_ble_eq_true rfl)) dX12_addRecipe_65 ⟨Nat.le_of_ble_eq_true rfl, Nat.le_of_ble_eq_true rfl⟩) hw hA (fun H locs hw => ?_)
    clear hcl
    refine lv_if_eq (tgt := 95) hx hb dX12_addRecipe_68 (by decide) (fun c68 => ?_) (fun c68 => ?_)
    · replace hf := xif_pos c68 hf
      refine lv_iconst (v := 0) hx hb dX12_addRecipe_95 (by decide) ?_
      exact x_iret hx hb hr hlk hw hf dX12_addRecipe_96
    · replace hf := xif_neg c68 hf
      refine lv_aload_n hx hb dX12_addRecipe_71 rfl (lv_at hl 0 rfl) ?_
      refine lv_aload_n hx hb dX12_addRecipe_72 rfl (lv_at hl 0 rfl) ?_
      refine x_getr hx hb hw (cM0 hE) (own := RX12) (ref := RX12) (C := RX12) (T := TX12) (N := 20) hts hiX12 hown rfl 1 (by decide) hk9 (fun _ h9 => h9) rfl dX12_addRecipe_73 ?_
      refine lv_iconst (v := 5) hx hb dX12_addRecipe_76 (by decide) ?_
      obtain ⟨hin, hf⟩ := xr_f hf
      refine x_iald hx hb hw (cM1 hE) hin dX12_addRecipe_77 ?_
      refine lv_topi (fun v13 ex => ?_)
      replace hf := hf v13 ex
      clear ex hin
      refine lv_bipush (v := 6) hx hb dX12_addRecipe_78 (by decide) ?_
      refine lv_icmp_ge (tgt := 87) hx hb dX12_addRecipe_80 (by decide) (fun c80 => ?_) (fun c80 => ?_)
      · replace hf := xif_pos c80 hf
        refine lv_iconst (v := 0) hx hb dX12_addRecipe_87 (by decide) ?_
        exact h88 a1 a2 a3 a4 a5 0 σ12 _ _ _ hw (lv_sub hl [0, 1, 2, 3, 4, 5] rfl) hf
      · replace hf := xif_neg c80 hf
        refine lv_iconst (v := 1) hx hb dX12_addRecipe_83 (by decide) ?_
        refine lv_goto (tgt := 88) hx hb dX12_addRecipe_84 (by decide) ?_
        exact h88 a1 a2 a3 a4 a5 1 σ12 _ _ _ hw (lv_sub hl [0, 1, 2, 3, 4, 5] rfl) hf
  have h63 : ∀ (a1 : Int32) (a2 : Int32) (a3 : Int32) (a4 : Int32) (a5 : Int32) (σ : xSt) (H : Heap) (locs : List Loc) (ls : Array Slot), xw E A s.heap s σ H locs → lv_has ls 7 [(0, .ref (E.a 0)), (1, .int a1), (2, .int a2), (3, .int a3), (4, .int a4), (5, .int a5)] → fX12_addRecipe_c63 a1 a2 a3 a4 a5 σ = some (o1, o2) → W p l e rmX12_addRecipe s m args below meth c H locs 0 0 (MQ below (xQi E A o1 o2) args s 0 0 A) (F0 m 63 ls [.ref (E.a 0)]) := by
    intro a1 a2 a3 a4 a5 σ H locs ls hw hl hf
    unfold fX12_addRecipe_c63 at hf
    refine lv_iconst (v := 0) hx hb dX12_addRecipe_63 (by decide) ?_
    exact h64 a1 a2 a3 a4 a5 0 σ _ _ _ hw (lv_sub hl [0, 1, 2, 3, 4, 5] rfl) hf
  refine lv_aload_n hx hb dX12_addRecipe_0 rfl (lv_at hl 0 rfl) ?_
  refine lv_iload_n hx hb dX12_addRecipe_1 rfl (lv_at hl 1 rfl) ?_
  refine lv_bipush (v := 50) hx hb dX12_addRecipe_2 (by decide) ?_
  refine lv_sipush (v := 2000) hx hb dX12_addRecipe_4 (by decide) ?_
  obtain ⟨r1, σ2, hcl, hf⟩ := xc2_f hf
  refine x_calli (va_runS (As := [.int p0, .int 50, .int 2000]) (rest := [.ref (E.a 0)]) ⟨hx, hb, hml, hown, hts⟩ (mX12_in hE p0 50 2000 σ r1 σ2 hcl s.heap.size) (va_cwS 3 hts gX12_addRecipe_X12_in rfl rfl rfl (by decide +kernel) ⟨Nat.le_of_ble_eq_true rfl, Nat.le_of_ble_eq_true rfl⟩) (x_preS _ hw hA hG) rfl rfl hl.1 rfl (lv_room (Nat.le_of_ble_eq_true rfl)) dX12_addRecipe_7 ⟨Nat.le_of_ble_eq_true rfl, Nat.le_of_ble_eq_true rfl⟩) hw hA (fun H locs hw => ?_)
  clear hcl
  refine lv_if_eq (tgt := 63) hx hb dX12_addRecipe_10 (by decide) (fun c10 => ?_) (fun c10 => ?_)
  · replace hf := xif_pos c10 hf
    exact h63 p0 p1 p2 p3 p4 σ2 _ _ _ hw (lv_sub hl [0, 1, 2, 3, 4, 5] rfl) hf
  · replace hf := xif_neg c10 hf
    refine lv_iload_n hx hb dX12_addRecipe_13 rfl (lv_at hl 2 rfl) ?_
    refine lv_iconst (v := 1) hx hb dX12_addRecipe_14 (by decide) ?_
    refine lv_sipush (v := 200) hx hb dX12_addRecipe_15 (by decide) ?_
    obtain ⟨r3, σ4, hcl, hf⟩ := xc2_f hf
    refine x_calli (va_runS (As := [.int p1, .int 1, .int 200]) (rest := [.ref (E.a 0)]) ⟨hx, hb, hml, hown, hts⟩ (mX12_in hE p1 1 200 σ2 r3 σ4 hcl H.size) (va_cwS 3 hts gX12_addRecipe_X12_in rfl rfl rfl (by decide +kernel) ⟨Nat.le_of_ble_eq_true rfl, Nat.le_of_ble_eq_true rfl⟩) (x_preS _ hw hA hG) rfl rfl hl.1 rfl (lv_room (Nat.le_of_ble_eq_true rfl)) dX12_addRecipe_18 ⟨Nat.le_of_ble_eq_true rfl, Nat.le_of_ble_eq_true rfl⟩) hw hA (fun H locs hw => ?_)
    clear hcl
    refine lv_if_eq (tgt := 63) hx hb dX12_addRecipe_21 (by decide) (fun c21 => ?_) (fun c21 => ?_)
    · replace hf := xif_pos c21 hf
      exact h63 p0 p1 p2 p3 p4 σ4 _ _ _ hw (lv_sub hl [0, 1, 2, 3, 4, 5] rfl) hf
    · replace hf := xif_neg c21 hf
      refine lv_iload_n hx hb dX12_addRecipe_24 rfl (lv_at hl 3 rfl) ?_
      refine lv_iload_n hx hb dX12_addRecipe_25 rfl (lv_at hl 2 rfl) ?_
      refine lv_sipush (v := 200) hx hb dX12_addRecipe_26 (by decide) ?_
      obtain ⟨r5, σ6, hcl, hf⟩ := xc2_f hf
      refine x_calli (va_runS (As := [.int p2, .int p1, .int 200]) (rest := [.ref (E.a 0)]) ⟨hx, hb, hml, hown, hts⟩ (mX12_in hE p2 p1 200 σ4 r5 σ6 hcl H.size) (va_cwS 3 hts gX12_addRecipe_X12_in rfl rfl rfl (by decide +kernel) ⟨Nat.le_of_ble_eq_true rfl, Nat.le_of_ble_eq_true rfl⟩) (x_preS _ hw hA hG) rfl rfl hl.1 rfl (lv_room (Nat.le_of_ble_eq_true rfl)) dX12_addRecipe_29 ⟨Nat.le_of_ble_eq_true rfl, Nat.le_of_ble_eq_true rfl⟩) hw hA (fun H locs hw => ?_)
      clear hcl
      refine lv_if_eq (tgt := 63) hx hb dX12_addRecipe_32 (by decide) (fun c32 => ?_) (fun c32 => ?_)
      · replace hf := xif_pos c32 hf
        exact h63 p0 p1 p2 p3 p4 σ6 _ _ _ hw (lv_sub hl [0, 1, 2, 3, 4, 5] rfl) hf
      · replace hf := xif_neg c32 hf
        refine lv_iload hx hb dX12_addRecipe_35 (lv_at hl 4 rfl) ?_
        refine lv_bipush (v := 100) hx hb dX12_addRecipe_37 (by decide) ?_
        refine lv_sipush (v := 300) hx hb dX12_addRecipe_39 (by decide) ?_
        obtain ⟨r7, σ8, hcl, hf⟩ := xc2_f hf
        refine x_calli (va_runS (As := [.int p3, .int 100, .int 300]) (rest := [.ref (E.a 0)]) ⟨hx, hb, hml, hown, hts⟩ (mX12_in hE p3 100 300 σ6 r7 σ8 hcl H.size) (va_cwS 3 hts gX12_addRecipe_X12_in rfl rfl rfl (by decide +kernel) ⟨Nat.le_of_ble_eq_true rfl, Nat.le_of_ble_eq_true rfl⟩) (x_preS _ hw hA hG) rfl rfl hl.1 rfl (lv_room (Nat.le_of_ble_eq_true rfl)) dX12_addRecipe_42 ⟨Nat.le_of_ble_eq_true rfl, Nat.le_of_ble_eq_true rfl⟩) hw hA (fun H locs hw => ?_)
        clear hcl
        refine lv_if_eq (tgt := 63) hx hb dX12_addRecipe_45 (by decide) (fun c45 => ?_) (fun c45 => ?_)
        · replace hf := xif_pos c45 hf
          exact h63 p0 p1 p2 p3 p4 σ8 _ _ _ hw (lv_sub hl [0, 1, 2, 3, 4, 5] rfl) hf
        · replace hf := xif_neg c45 hf
          refine lv_iload hx hb dX12_addRecipe_48 (lv_at hl 5 rfl) ?_
          refine lv_iconst (v := 0) hx hb dX12_addRecipe_50 (by decide) ?_
          refine lv_bipush (v := 15) hx hb dX12_addRecipe_51 (by decide) ?_
          obtain ⟨r9, σ10, hcl, hf⟩ := xc2_f hf
          refine x_calli (va_runS (As := [.int p4, .int 0, .int 15]) (rest := [.ref (E.a 0)]) ⟨hx, hb, hml, hown, hts⟩ (mX12_in hE p4 0 15 σ8 r9 σ10 hcl H.size) (va_cwS 3 hts gX12_addRecipe_X12_in rfl rfl rfl (by decide +kernel) ⟨Nat.le_of_ble_eq_true rfl, Nat.le_of_ble_eq_true rfl⟩) (x_preS _ hw hA hG) rfl rfl hl.1 rfl (lv_room (Nat.le_of_ble_eq_true rfl)) dX12_addRecipe_53 ⟨Nat.le_of_ble_eq_true rfl, Nat.le_of_ble_eq_true rfl⟩) hw hA (fun H locs hw => ?_)
          clear hcl
          refine lv_if_eq (tgt := 63) hx hb dX12_addRecipe_56 (by decide) (fun c56 => ?_) (fun c56 => ?_)
          · replace hf := xif_pos c56 hf
            exact h63 p0 p1 p2 p3 p4 σ10 _ _ _ hw (lv_sub hl [0, 1, 2, 3, 4, 5] rfl) hf
          · replace hf := xif_neg c56 hf
            refine lv_iconst (v := 1) hx hb dX12_addRecipe_59 (by decide) ?_
            refine lv_goto (tgt := 64) hx hb dX12_addRecipe_60 (by decide) ?_
            exact h64 p0 p1 p2 p3 p4 1 σ10 _ _ _ hw (lv_sub hl [0, 1, 2, 3, 4, 5] rfl) hf

def fX12_setWait (p0 : Int32) (p1 : Int32) (σ : xSt) : Option (Int32 × xSt) := (xc2 (fX12_isRecipe p0 σ) fun r1 σ2 => (xc2 (fX12_can r1 1 σ2) fun r3 σ4 => (if r3 = 0 then some (0, σ4) else (xc2 (fX12_in p1 0 99 σ4) fun r5 σ6 => (xc2 (fX12_can r5 2 σ6) fun r7 σ8 => (if r7 = 0 then some (0, σ8) else (xc (fX12_keep σ8) fun σ10 => (xr σ10 1 680 (49 + p0) fun v11 => (xs σ10 1 680 (49 + p0) p1 fun σ12 => some (v11, σ12))))))))))
abbrev rmX12_setWait : Room := { frames := 2, cells := 0, slots := 0, locals := 43 }
set_option maxRecDepth 100000 in
set_option maxHeartbeats 4000000 in
theorem mX12_setWait {l : Launch} {E : xE} (hE : E.sh = shM) (p0 : Int32) (p1 : Int32) (σ : xSt) (o1 : Int32) (o2 : xSt) (hf : fX12_setWait p0 p1 σ = some (o1, o2)) : xMi l yX12_setWait wsX12_setWait rmX12_setWait E [.ref (E.a 0), .int p0, .int p1] σ o1 o2 := by
  unfold fX12_setWait at hf
  refine xMi_of (cc := cX12_setWait) (maxL := 4) (ret := (some .int)) (by decide) rfl (Nat.le_of_ble_eq_true rfl) ?_
  intro p e s m args below meth c A ls ⟨hx, hb, hr, hml, hown, hts, hlk⟩ hA hG hw hl
  have hown : s.vm.findClass RX12 = some m.cls := hown
  have hl : lv_has ls 4 [(0, .ref (E.a 0)), (1, .int p0), (2, .int p1)] := hl
  have hk9 := hts (.fieldLink RX12 9 "OvenRoundModel" "w" "[I") (by decide +kernel)
  have hiX12 : ∀ w ∈ wsX120, w ∈ wsX12_setWait := by decide +kernel
  refine lv_aload_n hx hb dX12_setWait_0 rfl (lv_at hl 0 rfl) ?_
  refine lv_aload_n hx hb dX12_setWait_1 rfl (lv_at hl 0 rfl) ?_
  refine lv_iload_n hx hb dX12_setWait_2 rfl (lv_at hl 1 rfl) ?_
  obtain ⟨r1, σ2, hcl, hf⟩ := xc2_f hf
  refine x_calli (va_runV (As := [.int p0]) (rest := [.ref (E.a 0)]) ⟨hx, hb, hml, hown, hts⟩ (mX12_isRecipe hE p0 σ r1 σ2 hcl s.heap.size) (cwV 1 hts gX12_setWait_X12_isRecipe rfl rfl rfl (by decide +kernel) ⟨Nat.le_of_ble_eq_true rfl, Nat.le_of_ble_eq_true rfl⟩) (x_preV _ hw hA hG (cM0 hE) rfl) rfl rfl hl.1 rfl (lv_room (Nat.le_of_ble_eq_true rfl)) dX12_setWait_3 ⟨Nat.le_of_ble_eq_true rfl, Nat.le_of_ble_eq_true rfl⟩) hw hA (fun H locs hw => ?_)
  clear hcl
  refine lv_iconst (v := 1) hx hb dX12_setWait_6 (by decide) ?_
  obtain ⟨r3, σ4, hcl, hf⟩ := xc2_f hf
  refine x_calli (va_runV (As := [.int r1, .int 1]) (rest := []) ⟨hx, hb, hml, hown, hts⟩ (mX12_can hE r1 1 σ2 r3 σ4 hcl H.size) (cwV 2 hts gX12_setWait_X12_can rfl rfl rfl (by decide +kernel) ⟨Nat.le_of_ble_eq_true rfl, Nat.le_of_ble_eq_true rfl⟩) (x_preV _ hw hA hG (cM0 hE) rfl) rfl rfl hl.1 rfl (lv_room (Nat.le_of_ble_eq_true rfl)) dX12_setWait_7 ⟨Nat.le_of_ble_eq_true rfl, Nat.le_of_ble_eq_true rfl⟩) hw hA (fun H locs hw => ?_)
  clear hcl
  refine lv_if_eq (tgt := 28) hx hb dX12_setWait_10 (by decide) (fun c10 => ?_) (fun c10 => ?_)
  · replace hf := xif_pos c10 hf
    refine lv_iconst (v := 0) hx hb dX12_setWait_28 (by decide) ?_
    exact x_iret hx hb hr hlk hw hf dX12_setWait_29
  · replace hf := xif_neg c10 hf
    refine lv_aload_n hx hb dX12_setWait_13 rfl (lv_at hl 0 rfl) ?_
    refine lv_iload_n hx hb dX12_setWait_14 rfl (lv_at hl 2 rfl) ?_
    refine lv_iconst (v := 0) hx hb dX12_setWait_15 (by decide) ?_
    refine lv_bipush (v := 99) hx hb dX12_setWait_16 (by decide) ?_
    obtain ⟨r5, σ6, hcl, hf⟩ := xc2_f hf
    refine x_calli (va_runS (As := [.int p1, .int 0, .int 99]) (rest := [.ref (E.a 0)]) ⟨hx, hb, hml, hown, hts⟩ (mX12_in hE p1 0 99 σ4 r5 σ6 hcl H.size) (va_cwS 3 hts gX12_setWait_X12_in rfl rfl rfl (by decide +kernel) ⟨Nat.le_of_ble_eq_true rfl, Nat.le_of_ble_eq_true rfl⟩) (x_preS _ hw hA hG) rfl rfl hl.1 rfl (lv_room (Nat.le_of_ble_eq_true rfl)) dX12_setWait_18 ⟨Nat.le_of_ble_eq_true rfl, Nat.le_of_ble_eq_true rfl⟩) hw hA (fun H locs hw => ?_)
    clear hcl
    refine lv_iconst (v := 2) hx hb dX12_setWait_21 (by decide) ?_
    obtain ⟨r7, σ8, hcl, hf⟩ := xc2_f hf
    refine x_calli (va_runV (As := [.int r5, .int 2]) (rest := []) ⟨hx, hb, hml, hown, hts⟩ (mX12_can hE r5 2 σ6 r7 σ8 hcl H.size) (cwV 2 hts gX12_setWait_X12_can rfl rfl rfl (by decide +kernel) ⟨Nat.le_of_ble_eq_true rfl, Nat.le_of_ble_eq_true rfl⟩) (x_preV _ hw hA hG (cM0 hE) rfl) rfl rfl hl.1 rfl (lv_room (Nat.le_of_ble_eq_true rfl)) dX12_setWait_22 ⟨Nat.le_of_ble_eq_true rfl, Nat.le_of_ble_eq_true rfl⟩) hw hA (fun H locs hw => ?_)
    clear hcl
    refine lv_if_ne (tgt := 30) hx hb dX12_setWait_25 (by decide) (fun c25 => ?_) (fun c25 => ?_)
    · replace hf := xif_neg c25 hf
      refine lv_aload_n hx hb dX12_setWait_30 rfl (lv_at hl 0 rfl) ?_
      obtain ⟨σ10, hcl, hf⟩ := xc_e hf
      refine x_callv (va_runV (As := []) (rest := []) ⟨hx, hb, hml, hown, hts⟩ (mX12_keep hE σ8 σ10 hcl H.size) (cwV 0 hts gX12_setWait_X12_keep rfl rfl rfl (by decide +kernel) ⟨Nat.le_of_ble_eq_true rfl, Nat.le_of_ble_eq_true rfl⟩) (x_preV _ hw hA hG (cM0 hE) rfl) rfl rfl hl.1 rfl (lv_room (Nat.le_of_ble_eq_true rfl)) dX12_setWait_31 ⟨Nat.le_of_ble_eq_true rfl, Nat.le_of_ble_eq_true rfl⟩) hw hA (fun H locs hw => ?_)
      clear hcl
      refine lv_aload_n hx hb dX12_setWait_34 rfl (lv_at hl 0 rfl) ?_
      refine x_getr hx hb hw (cM0 hE) (own := RX12) (ref := RX12) (C := RX12) (T := TX12) (N := 20) hts hiX12 hown rfl 1 (by decide) hk9 (fun _ h9 => h9) rfl dX12_setWait_35 ?_
      refine lv_bipush (v := 49) hx hb dX12_setWait_38 (by decide) ?_
      refine lv_iload_n hx hb dX12_setWait_40 rfl (lv_at hl 1 rfl) ?_
      refine lv_iadd hx hb dX12_setWait_41 ?_
      obtain ⟨hin, hf⟩ := xr_f hf
      refine x_iald hx hb hw (cM1 hE) hin dX12_setWait_42 ?_
      refine lv_topi (fun v11 ex => ?_)
      replace hf := hf v11 ex
      clear ex hin
      refine lv_istore_n (lv' := [(3, .int v11), (0, .ref (E.a 0)), (1, .int p0), (2, .int p1)]) hx hb dX12_setWait_43 rfl hl (by decide) rfl (fun ls hl => ?_)
      refine lv_aload_n hx hb dX12_setWait_44 rfl (lv_at hl 1 rfl) ?_
      refine x_getr hx hb hw (cM0 hE) (own := RX12) (ref := RX12) (C := RX12) (T := TX12) (N := 20) hts hiX12 hown rfl 1 (by decide) hk9 (fun _ h9 => h9) rfl dX12_setWait_45 ?_
      refine lv_bipush (v := 49) hx hb dX12_setWait_48 (by decide) ?_
      refine lv_iload_n hx hb dX12_setWait_50 rfl (lv_at hl 2 rfl) ?_
      refine lv_iadd hx hb dX12_setWait_51 ?_
      refine lv_iload_n hx hb dX12_setWait_52 rfl (lv_at hl 3 rfl) ?_
      obtain ⟨hin, hf⟩ := xs_f hf
      refine x_iast hx hb hw (cM1 hE) hin dX12_setWait_53 (fun σ12 H locs ex hw => ?_)
      replace hf := hf σ12 ex
      clear ex hin
      refine lv_iload_n hx hb dX12_setWait_54 rfl (lv_at hl 0 rfl) ?_
      exact x_iret hx hb hr hlk hw hf dX12_setWait_55
    · replace hf := xif_pos c25 hf
      refine lv_iconst (v := 0) hx hb dX12_setWait_28 (by decide) ?_
      exact x_iret hx hb hr hlk hw hf dX12_setWait_29

def fX12_setPart_c21 (a1 : Int32) (a2 : Int32) (a3 : Int32) (t0 : Int32) (σ : xSt) : Option (Int32 × xSt) := (xc2 (fX12_can t0 1 σ) fun r5 σ6 => (if r5 = 0 then some (0, σ6) else (xc2 (fX12_in a3 0 9999 σ6) fun r7 σ8 => (xc2 (fX12_can r7 2 σ8) fun r9 σ10 => (if r9 = 0 then some (0, σ10) else (xc (fX12_keep σ10) fun σ12 => (xr σ12 1 680 ((55 + (8 * a1)) + a2) fun v13 => (xs σ12 1 680 ((55 + (8 * a1)) + a2) a3 fun σ14 => some (v13, σ14)))))))))
def fX12_setPart_c20 (a1 : Int32) (a2 : Int32) (a3 : Int32) (σ : xSt) : Option (Int32 × xSt) := fX12_setPart_c21 a1 a2 a3 0 σ
def fX12_setPart (p0 : Int32) (p1 : Int32) (p2 : Int32) (σ : xSt) : Option (Int32 × xSt) := (xc2 (fX12_isRecipe p0 σ) fun r1 σ2 => (if r1 = 0 then fX12_setPart_c20 p0 p1 p2 σ2 else (xc2 (fX12_isGood p1 σ2) fun r3 σ4 => (if r3 = 0 then fX12_setPart_c20 p0 p1 p2 σ4 else fX12_setPart_c21 p0 p1 p2 1 σ4))))
abbrev rmX12_setPart : Room := { frames := 2, cells := 0, slots := 0, locals := 43 }
set_option maxRecDepth 100000 in
set_option maxHeartbeats 4000000 in
theorem mX12_setPart {l : Launch} {E : xE} (hE : E.sh = shM) (p0 : Int32) (p1 : Int32) (p2 : Int32) (σ : xSt) (o1 : Int32) (o2 : xSt) (hf : fX12_setPart p0 p1 p2 σ = some (o1, o2)) : xMi l yX12_setPart wsX12_setPart rmX12_setPart E [.ref (E.a 0), .int p0, .int p1, .int p2] σ o1 o2 := by
  unfold fX12_setPart at hf
  refine xMi_of (cc := cX12_setPart) (maxL := 5) (ret := (some .int)) (by decide) rfl (Nat.le_of_ble_eq_true rfl) ?_
  intro p e s m args below meth c A ls ⟨hx, hb, hr, hml, hown, hts, hlk⟩ hA hG hw hl
  have hown : s.vm.findClass RX12 = some m.cls := hown
  have hl : lv_has ls 5 [(0, .ref (E.a 0)), (1, .int p0), (2, .int p1), (3, .int p2)] := hl
  have hk9 := hts (.fieldLink RX12 9 "OvenRoundModel" "w" "[I") (by decide +kernel)
  have hiX12 : ∀ w ∈ wsX120, w ∈ wsX12_setPart := by decide +kernel
  have h21 : ∀ (a1 : Int32) (a2 : Int32) (a3 : Int32) (t0 : Int32) (σ : xSt) (H : Heap) (locs : List Loc) (ls : Array Slot), xw E A s.heap s σ H locs → lv_has ls 5 [(0, .ref (E.a 0)), (1, .int a1), (2, .int a2), (3, .int a3)] → fX12_setPart_c21 a1 a2 a3 t0 σ = some (o1, o2) → W p l e rmX12_setPart s m args below meth c H locs 0 0 (MQ below (xQi E A o1 o2) args s 0 0 A) (F0 m 21 ls [.int t0, .ref (E.a 0)]) := by
    intro a1 a2 a3 t0 σ H locs ls hw hl hf
    unfold fX12_setPart_c21 at hf
    refine lv_iconst (v := 1) hx hb dX12_setPart_21 (by decide) ?_
    obtain ⟨r5, σ6, hcl, hf⟩ := xc2_f hf
    refine x_calli (va_runV (As := [.int t0, .int 1]) (rest := []) ⟨hx, hb, hml, hown, hts⟩ (mX12_can hE t0 1 σ r5 σ6 hcl H.size) (cwV 2 hts gX12_setPart_X12_can rfl rfl rfl (by decide +kernel) ⟨Nat.le_of_ble_eq_true rfl, Nat.le_of_ble_eq_true rfl⟩) (x_preV _ hw hA hG (cM0 hE) rfl) rfl rfl hl.1 rfl (lv_room (Nat.le_of_ble_eq_true rfl)) dX12_setPart_22 ⟨Nat.le_of_ble_eq_true rfl, Nat.le_of_ble_eq_true rfl⟩) hw hA (fun H locs hw => ?_)
    clear hcl
    refine lv_if_eq (tgt := 44) hx hb dX12_setPart_25 (by decide) (fun c25 => ?_) (fun c25 => ?_)
    · replace hf := xif_pos c25 hf
      refine lv_iconst (v := 0) hx hb dX12_setPart_44 (by decide) ?_
      exact x_iret hx hb hr hlk hw hf dX12_setPart_45
    · replace hf := xif_neg c25 hf
      refine lv_aload_n hx hb dX12_setPart_28 rfl (lv_at hl 0 rfl) ?_
      refine lv_iload_n hx hb dX12_setPart_29 rfl (lv_at hl 3 rfl) ?_
      refine lv_iconst (v := 0) hx hb dX12_setPart_30 (by decide) ?_
      refine lv_sipush (v := 9999) hx hb dX12_setPart_31 (by decide) ?_
      obtain ⟨r7, σ8, hcl, hf⟩ := xc2_f hf
      refine x_calli (va_runS (As := [.int a3, .int 0, .int 9999]) (rest := [.ref (E.a 0)]) ⟨hx, hb, hml, hown, hts⟩ (mX12_in hE a3 0 9999 σ6 r7 σ8 hcl H.size) (va_cwS 3 hts gX12_setPart_X12_in rfl rfl rfl (by decide +kernel) ⟨Nat.le_of_ble_eq_true rfl, Nat.le_of_ble_eq_true rfl⟩) (x_preS _ hw hA hG) rfl rfl hl.1 rfl (lv_room (Nat.le_of_ble_eq_true rfl)) dX12_setPart_34 ⟨Nat.le_of_ble_eq_true rfl, Nat.le_of_ble_eq_true rfl⟩) hw hA (fun H locs hw => ?_)
      clear hcl
      refine lv_iconst (v := 2) hx hb dX12_setPart_37 (by decide) ?_
      obtain ⟨r9, σ10, hcl, hf⟩ := xc2_f hf
      refine x_calli (va_runV (As := [.int r7, .int 2]) (rest := []) ⟨hx, hb, hml, hown, hts⟩ (mX12_can hE r7 2 σ8 r9 σ10 hcl H.size) (cwV 2 hts gX12_setPart_X12_can rfl rfl rfl (by decide +kernel) ⟨Nat.le_of_ble_eq_true rfl, Nat.le_of_ble_eq_true rfl⟩) (x_preV _ hw hA hG (cM0 hE) rfl) rfl rfl hl.1 rfl (lv_room (Nat.le_of_ble_eq_true rfl)) dX12_setPart_38 ⟨Nat.le_of_ble_eq_true rfl, Nat.le_of_ble_eq_true rfl⟩) hw hA (fun H locs hw => ?_)
      clear hcl
      refine lv_if_ne (tgt := 46) hx hb dX12_setPart_41 (by decide) (fun c41 => ?_) (fun c41 => ?_)
      · replace hf := xif_neg c41 hf
        refine lv_aload_n hx hb dX12_setPart_46 rfl (lv_at hl 0 rfl) ?_
        obtain ⟨σ12, hcl, hf⟩ := xc_e hf
        refine x_callv (va_runV (As := []) (rest := []) ⟨hx, hb, hml, hown, hts⟩ (mX12_keep hE σ10 σ12 hcl H.size) (cwV 0 hts gX12_setPart_X12_keep rfl rfl rfl (by decide +kernel) ⟨Nat.le_of_ble_eq_true rfl, Nat.le_of_ble_eq_true rfl⟩) (x_preV _ hw hA hG (cM0 hE) rfl) rfl rfl hl.1 rfl (lv_room (Nat.le_of_ble_eq_true rfl)) dX12_setPart_47 ⟨Nat.le_of_ble_eq_true rfl, Nat.le_of_ble_eq_true rfl⟩) hw hA (fun H locs hw => ?_)
        clear hcl
        refine lv_aload_n hx hb dX12_setPart_50 rfl (lv_at hl 0 rfl) ?_
        refine x_getr hx hb hw (cM0 hE) (own := RX12) (ref := RX12) (C := RX12) (T := TX12) (N := 20) hts hiX12 hown rfl 1 (by decide) hk9 (fun _ h9 => h9) rfl dX12_setPart_51 ?_
        refine lv_bipush (v := 55) hx hb dX12_setPart_54 (by decide) ?_
        refine lv_bipush (v := 8) hx hb dX12_setPart_56 (by decide) ?_
        refine lv_iload_n hx hb dX12_setPart_58 rfl (lv_at hl 1 rfl) ?_
        refine lv_imul hx hb dX12_setPart_59 ?_
        refine lv_iadd hx hb dX12_setPart_60 ?_
        refine lv_iload_n hx hb dX12_setPart_61 rfl (lv_at hl 2 rfl) ?_
        refine lv_iadd hx hb dX12_setPart_62 ?_
        obtain ⟨hin, hf⟩ := xr_f hf
        refine x_iald hx hb hw (cM1 hE) hin dX12_setPart_63 ?_
        refine lv_topi (fun v13 ex => ?_)
        replace hf := hf v13 ex
        clear ex hin
        refine lv_istore (lv' := [(4, .int v13), (0, .ref (E.a 0)), (1, .int a1), (2, .int a2), (3, .int a3)]) hx hb dX12_setPart_64 hl (by decide) rfl (fun ls hl => ?_)
        refine lv_aload_n hx hb dX12_setPart_66 rfl (lv_at hl 1 rfl) ?_
        refine x_getr hx hb hw (cM0 hE) (own := RX12) (ref := RX12) (C := RX12) (T := TX12) (N := 20) hts hiX12 hown rfl 1 (by decide) hk9 (fun _ h9 => h9) rfl dX12_setPart_67 ?_
        refine lv_bipush (v := 55) hx hb dX12_setPart_70 (by decide) ?_
        refine lv_bipush (v := 8) hx hb dX12_setPart_72 (by decide) ?_
        refine lv_iload_n hx hb dX12_setPart_74 rfl (lv_at hl 2 rfl) ?_
        refine lv_imul hx hb dX12_setPart_75 ?_
        refine lv_iadd hx hb dX12_setPart_76 ?_
        refine lv_iload_n hx hb dX12_setPart_77 rfl (lv_at hl 3 rfl) ?_
        refine lv_iadd hx hb dX12_setPart_78 ?_
        refine lv_iload_n hx hb dX12_setPart_79 rfl (lv_at hl 4 rfl) ?_
        obtain ⟨hin, hf⟩ := xs_f hf
        refine x_iast hx hb hw (cM1 hE) hin dX12_setPart_80 (fun σ14 H locs ex hw => ?_)
        replace hf := hf σ14 ex
        clear ex hin
        refine lv_iload hx hb dX12_setPart_81 (lv_at hl 0 rfl) ?_
        exact x_iret hx hb hr hlk hw hf dX12_setPart_83
      · replace hf := xif_pos c41 hf
        refine lv_iconst (v := 0) hx hb dX12_setPart_44 (by decide) ?_
        exact x_iret hx hb hr hlk hw hf dX12_setPart_45
  have h20 : ∀ (a1 : Int32) (a2 : Int32) (a3 : Int32) (σ : xSt) (H : Heap) (locs : List Loc) (ls : Array Slot), xw E A s.heap s σ H locs → lv_has ls 5 [(0, .ref (E.a 0)), (1, .int a1), (2, .int a2), (3, .int a3)] → fX12_setPart_c20 a1 a2 a3 σ = some (o1, o2) → W p l e rmX12_setPart s m args below meth c H locs 0 0 (MQ below (xQi E A o1 o2) args s 0 0 A) (F0 m 20 ls [.ref (E.a 0)]) := by
    intro a1 a2 a3 σ H locs ls hw hl hf
    unfold fX12_setPart_c20 at hf
    refine lv_iconst (v := 0) hx hb dX12_setPart_20 (by decide) ?_
    exact h21 a1 a2 a3 0 σ _ _ _ hw (lv_sub hl [0, 1, 2, 3] rfl) hf
  refine lv_aload_n hx hb dX12_setPart_0 rfl (lv_at hl 0 rfl) ?_
  refine lv_aload_n hx hb dX12_setPart_1 rfl (lv_at hl 0 rfl) ?_
  refine lv_iload_n hx hb dX12_setPart_2 rfl (lv_at hl 1 rfl) ?_
  obtain ⟨r1, σ2, hcl, hf⟩ := xc2_f hf
  refine x_calli (va_runV (As := [.int p0]) (rest := [.ref (E.a 0)]) ⟨hx, hb, hml, hown, hts⟩ (mX12_isRecipe hE p0 σ r1 σ2 hcl s.heap.size) (cwV 1 hts gX12_setPart_X12_isRecipe rfl rfl rfl (by decide +kernel) ⟨Nat.le_of_ble_eq_true rfl, Nat.le_of_ble_eq_true rfl⟩) (x_preV _ hw hA hG (cM0 hE) rfl) rfl rfl hl.1 rfl (lv_room (Nat.le_of_ble_eq_true rfl)) dX12_setPart_3 ⟨Nat.le_of_ble_eq_true rfl, Nat.le_of_ble_eq_true rfl⟩) hw hA (fun H locs hw => ?_)
  clear hcl
  refine lv_if_eq (tgt := 20) hx hb dX12_setPart_6 (by decide) (fun c6 => ?_) (fun c6 => ?_)
  · replace hf := xif_pos c6 hf
    exact h20 p0 p1 p2 σ2 _ _ _ hw (lv_sub hl [0, 1, 2, 3] rfl) hf
  · replace hf := xif_neg c6 hf
    refine lv_iload_n hx hb dX12_setPart_9 rfl (lv_at hl 2 rfl) ?_
    obtain ⟨r3, σ4, hcl, hf⟩ := xc2_f hf
    refine x_calli (va_runS (As := [.int p1]) (rest := [.ref (E.a 0)]) ⟨hx, hb, hml, hown, hts⟩ (mX12_isGood hE p1 σ2 r3 σ4 hcl H.size) (va_cwS 1 hts gX12_setPart_X12_isGood rfl rfl rfl (by decide +kernel) ⟨Nat.le_of_ble_eq_true rfl, Nat.le_of_ble_eq_true rfl⟩) (x_preS _ hw hA hG) rfl rfl hl.1 rfl (lv_room (Nat.le_of_ble_eq_true rfl)) dX12_setPart_10 ⟨Nat.le_of_ble_eq_true rfl, Nat.le_of_ble_eq_true rfl⟩) hw hA (fun H locs hw => ?_)
    clear hcl
    refine lv_if_eq (tgt := 20) hx hb dX12_setPart_13 (by decide) (fun c13 => ?_) (fun c13 => ?_)
    · replace hf := xif_pos c13 hf
      exact h20 p0 p1 p2 σ4 _ _ _ hw (lv_sub hl [0, 1, 2, 3] rfl) hf
    · replace hf := xif_neg c13 hf
      refine lv_iconst (v := 1) hx hb dX12_setPart_16 (by decide) ?_
      refine lv_goto (tgt := 21) hx hb dX12_setPart_17 (by decide) ?_
      exact h21 p0 p1 p2 1 σ4 _ _ _ hw (lv_sub hl [0, 1, 2, 3] rfl) hf

def fX12_partsUpTo_c5 : Nat → Int32 → Int32 → Int32 → Int32 → xSt → Option (Int32 × xSt)
  | 0 => fun _ _ _ _ _ => none
  | n + 1 => fun a1 a2 a3 a4 σ => (if a2 < a4 then some (a3, σ) else (xr σ 1 680 ((55 + (8 * a1)) + a4) fun v1 => (xl (a3 + v1) fun v2 => (xl (a4 + 1) fun v3 => fX12_partsUpTo_c5 n a1 a2 v2 v3 σ))))
theorem fX12_partsUpTo_c5_s (n : Nat) (a1 : Int32) (a2 : Int32) (a3 : Int32) (a4 : Int32) (σ : xSt) : fX12_partsUpTo_c5 (n + 1) a1 a2 a3 a4 σ = ((if a2 < a4 then some (a3, σ) else (xr σ 1 680 ((55 + (8 * a1)) + a4) fun v1 => (xl (a3 + v1) fun v2 => (xl (a4 + 1) fun v3 => fX12_partsUpTo_c5 n a1 a2 v2 v3 σ)))) : Option (Int32 × xSt)) := rfl
def fX12_partsUpTo (p0 : Int32) (p1 : Int32) (σ : xSt) : Option (Int32 × xSt) := fX12_partsUpTo_c5 xFU p0 p1 0 0 σ
abbrev rmX12_partsUpTo : Room := { frames := 0, cells := 0, slots := 0, locals := 0 }
set_option maxRecDepth 100000 in
set_option maxHeartbeats 4000000 in
theorem mX12_partsUpTo {l : Launch} {E : xE} (hE : E.sh = shM) (p0 : Int32) (p1 : Int32) (σ : xSt) (o1 : Int32) (o2 : xSt) (hf : fX12_partsUpTo p0 p1 σ = some (o1, o2)) : xMi l yX12_partsUpTo wsX12_partsUpTo rmX12_partsUpTo E [.ref (E.a 0), .int p0, .int p1] σ o1 o2 := by
  unfold fX12_partsUpTo at hf
  refine xMi_of (cc := cX12_partsUpTo) (maxL := 5) (ret := (some .int)) (by decide) rfl (Nat.le_of_ble_eq_true rfl) ?_
  intro p e s m args below meth c A ls ⟨hx, hb, hr, hml, hown, hts, hlk⟩ hA hG hw hl
  have hown : s.vm.findClass RX12 = some m.cls := hown
  have hl : lv_has ls 5 [(0, .ref (E.a 0)), (1, .int p0), (2, .int p1)] := hl
  have hk9 := hts (.fieldLink RX12 9 "OvenRoundModel" "w" "[I") (by decide +kernel)
  have hiX12 : ∀ w ∈ wsX120, w ∈ wsX12_partsUpTo := by decide +kernel
  have h5 : ∀ (n : Nat) (a1 : Int32) (a2 : Int32) (a3 : Int32) (a4 : Int32) (σ : xSt) (H : Heap) (locs : List Loc) (ls : Array Slot), xw E A s.heap s σ H locs → lv_has ls 5 [(0, .ref (E.a 0)), (1, .int a1), (2, .int a2), (3, .int a3), (4, .int a4)] → fX12_partsUpTo_c5 n a1 a2 a3 a4 σ = some (o1, o2) → W p l e rmX12_partsUpTo s m args below meth c H locs 0 0 (MQ below (xQi E A o1 o2) args s 0 0 A) (F0 m 5 ls []) := by
    intro n5
    induction n5 with
    | zero => intro a1 a2 a3 a4 σ H locs ls hw hl hf; exact nomatch hf
    | succ n5 ih5 =>
      intro a1 a2 a3 a4 σ H locs ls hw hl hf
      rw [fX12_partsUpTo_c5_s] at hf
      refine lv_iload hx hb dX12_partsUpTo_5 (lv_at hl 4 rfl) ?_
      refine lv_iload_n hx hb dX12_partsUpTo_7 rfl (lv_at hl 2 rfl) ?_
      refine lv_icmp_gt (tgt := 35) hx hb dX12_partsUpTo_8 (by decide) (fun c8 => ?_) (fun c8 => ?_)
      · replace hf := xif_pos c8 hf
        refine lv_iload_n hx hb dX12_partsUpTo_35 rfl (lv_at hl 3 rfl) ?_
        exact x_iret hx hb hr hlk hw hf dX12_partsUpTo_36
      · replace hf := xif_neg c8 hf
        refine lv_iload_n hx hb dX12_partsUpTo_11 rfl (lv_at hl 3 rfl) ?_
        refine lv_aload_n hx hb dX12_partsUpTo_12 rfl (lv_at hl 0 rfl) ?_
        refine x_getr hx hb hw (cM0 hE) (own := RX12) (ref := RX12) (C := RX12) (T := TX12) (N := 20) hts hiX12 hown rfl 1 (by decide) hk9 (fun _ h9 => h9) rfl dX12_partsUpTo_13 ?_
        refine lv_bipush (v := 55) hx hb dX12_partsUpTo_16 (by decide) ?_
        refine lv_bipush (v := 8) hx hb dX12_partsUpTo_18 (by decide) ?_
        refine lv_iload_n hx hb dX12_partsUpTo_20 rfl (lv_at hl 1 rfl) ?_
        refine lv_imul hx hb dX12_partsUpTo_21 ?_
        refine lv_iadd hx hb dX12_partsUpTo_22 ?_
        refine lv_iload hx hb dX12_partsUpTo_23 (lv_at hl 4 rfl) ?_
        refine lv_iadd hx hb dX12_partsUpTo_25 ?_
        obtain ⟨hin, hf⟩ := xr_f hf
        refine x_iald hx hb hw (cM1 hE) hin dX12_partsUpTo_26 ?_
        refine lv_topi (fun v1 ex => ?_)
        replace hf := hf v1 ex
        clear ex hin
        refine lv_iadd hx hb dX12_partsUpTo_27 ?_
        refine lv_topi (fun v2 ex => ?_)
        replace hf := xl_f hf v2 ex
        clear ex
        refine lv_istore_n (lv' := [(3, .int v2), (0, .ref (E.a 0)), (1, .int a1), (2, .int a2), (4, .int a4)]) hx hb dX12_partsUpTo_28 rfl hl (by decide) rfl (fun ls hl => ?_)
        obtain ⟨v3, ex⟩ : ∃ y : Int32, y = (a4 + 1) := ⟨_, rfl⟩
        replace hf := xl_f hf v3 ex
        refine lv_iinc (v := v3) (lv' := [(4, .int v3), (3, .int v2), (0, .ref (E.a 0)), (1, .int a1), (2, .int a2)]) hx hb dX12_partsUpTo_29 hl (k := 4) rfl (by rw [ex]; rfl) (by decide) rfl (fun ls hl => ?_)
        clear ex
        refine lv_goto (tgt := 5) hx hb dX12_partsUpTo_32 (by decide) ?_
        exact ih5 a1 a2 v2 v3 σ _ _ _ hw (lv_sub hl [2, 3, 4, 1, 0] rfl) hf
  refine lv_iconst (v := 0) hx hb dX12_partsUpTo_0 (by decide) ?_
  refine lv_istore_n (lv' := [(3, .int 0), (0, .ref (E.a 0)), (1, .int p0), (2, .int p1)]) hx hb dX12_partsUpTo_1 rfl hl (by decide) rfl (fun ls hl => ?_)
  refine lv_iconst (v := 0) hx hb dX12_partsUpTo_2 (by decide) ?_
  refine lv_istore (lv' := [(4, .int 0), (3, .int 0), (0, .ref (E.a 0)), (1, .int p0), (2, .int p1)]) hx hb dX12_partsUpTo_3 hl (by decide) rfl (fun ls hl => ?_)
  exact h5 xFU p0 p1 0 0 σ _ _ _ hw (lv_sub hl [2, 3, 4, 1, 0] rfl) hf

def fX12_allParts (p0 : Int32) (σ : xSt) : Option (Int32 × xSt) := (xc2 (fX12_partsUpTo p0 7 σ) fun r1 σ2 => some (r1, σ2))
abbrev rmX12_allParts : Room := { frames := 1, cells := 0, slots := 0, locals := 24 }
set_option maxRecDepth 100000 in
set_option maxHeartbeats 4000000 in
theorem mX12_allParts {l : Launch} {E : xE} (hE : E.sh = shM) (p0 : Int32) (σ : xSt) (o1 : Int32) (o2 : xSt) (hf : fX12_allParts p0 σ = some (o1, o2)) : xMi l yX12_allParts wsX12_allParts rmX12_allParts E [.ref (E.a 0), .int p0] σ o1 o2 := by
  unfold fX12_allParts at hf
  refine xMi_of (cc := cX12_allParts) (maxL := 2) (ret := (some .int)) (by decide) rfl (Nat.le_of_ble_eq_true rfl) ?_
  intro p e s m args below meth c A ls ⟨hx, hb, hr, hml, hown, hts, hlk⟩ hA hG hw hl
  have hown : s.vm.findClass RX12 = some m.cls := hown
  have hl : lv_has ls 2 [(0, .ref (E.a 0)), (1, .int p0)] := hl
  refine lv_aload_n hx hb dX12_allParts_0 rfl (lv_at hl 0 rfl) ?_
  refine lv_iload_n hx hb dX12_allParts_1 rfl (lv_at hl 1 rfl) ?_
  refine lv_bipush (v := 7) hx hb dX12_allParts_2 (by decide) ?_
  obtain ⟨r1, σ2, hcl, hf⟩ := xc2_f hf
  refine x_calli (va_runV (As := [.int p0, .int 7]) (rest := []) ⟨hx, hb, hml, hown, hts⟩ (mX12_partsUpTo hE p0 7 σ r1 σ2 hcl s.heap.size) (cwV 2 hts gX12_allParts_X12_partsUpTo rfl rfl rfl (by decide +kernel) ⟨Nat.le_of_ble_eq_true rfl, Nat.le_of_ble_eq_true rfl⟩) (x_preV _ hw hA hG (cM0 hE) rfl) rfl rfl hl.1 rfl (lv_room (Nat.le_of_ble_eq_true rfl)) dX12_allParts_4 ⟨Nat.le_of_ble_eq_true rfl, Nat.le_of_ble_eq_true rfl⟩) hw hA (fun H locs hw => ?_)
  clear hcl
  exact x_iret hx hb hr hlk hw hf dX12_allParts_7

def fX12_scales_c13 : Nat → Int32 → Int32 → Int64 → Int64 → Int32 → xSt → Option xSt
  | 0 => fun _ _ _ _ _ _ => none
  | n + 1 => fun a1 a2 a3 a5 a7 σ => (if 8 ≤ a7 then some σ else (xc2 (fX12_partsUpTo a1 a7 σ) fun r4 σ5 => (xnzl a3 ((xl (((Int32.toInt64 a2) * (Int32.toInt64 r4)) / a3) fun v6 => (xs σ5 5 8 a7 (Int64.toInt32 (v6 - a5)) fun σ7 => (xl (a7 + 1) fun v8 => fX12_scales_c13 n a1 a2 a3 v6 v8 σ7)))))))
theorem fX12_scales_c13_s (n : Nat) (a1 : Int32) (a2 : Int32) (a3 : Int64) (a5 : Int64) (a7 : Int32) (σ : xSt) : fX12_scales_c13 (n + 1) a1 a2 a3 a5 a7 σ = ((if 8 ≤ a7 then some σ else (xc2 (fX12_partsUpTo a1 a7 σ) fun r4 σ5 => (xnzl a3 ((xl (((Int32.toInt64 a2) * (Int32.toInt64 r4)) / a3) fun v6 => (xs σ5 5 8 a7 (Int64.toInt32 (v6 - a5)) fun σ7 => (xl (a7 + 1) fun v8 => fX12_scales_c13 n a1 a2 a3 v6 v8 σ7))))))) : Option xSt) := rfl
def fX12_scales (p0 : Int32) (p1 : Int32) (σ : xSt) : Option xSt := (xc2 (fX12_allParts p0 σ) fun r1 σ2 => (xl (Int32.toInt64 r1) fun v3 => fX12_scales_c13 xFU p0 p1 v3 0 0 σ2))
abbrev rmX12_scales : Room := { frames := 2, cells := 0, slots := 0, locals := 45 }
set_option maxRecDepth 100000 in
set_option maxHeartbeats 4000000 in
theorem mX12_scales {l : Launch} {E : xE} (hE : E.sh = shM) (p0 : Int32) (p1 : Int32) (σ : xSt) (o1 : xSt) (hf : fX12_scales p0 p1 σ = some o1) : xMv l yX12_scales wsX12_scales rmX12_scales E [.ref (E.a 0), .int p0, .int p1] σ o1 := by
  unfold fX12_scales at hf
  refine xMv_of (cc := cX12_scales) (maxL := 10) (ret := none) (by decide) rfl (Nat.le_of_ble_eq_true rfl) ?_
  intro p e s m args below meth c A ls ⟨hx, hb, hr, hml, hown, hts, hlk⟩ hA hG hw hl
  have hown : s.vm.findClass RX12 = some m.cls := hown
  have hl : lv_has ls 10 [(0, .ref (E.a 0)), (1, .int p0), (2, .int p1)] := hl
  have hk22 := hts (.fieldLink RX12 22 "OvenRoundModel" "amounts" "[I") (by decide +kernel)
  have hiX12 : ∀ w ∈ wsX120, w ∈ wsX12_scales := by decide +kernel
  have h13 : ∀ (n : Nat) (a1 : Int32) (a2 : Int32) (a3 : Int64) (a5 : Int64) (a7 : Int32) (σ : xSt) (H : Heap) (locs : List Loc) (ls : Array Slot), xw E A s.heap s σ H locs → lv_has ls 10 [(0, .ref (E.a 0)), (1, .int a1), (2, .int a2), (3, .long a3), (5, .long a5), (7, .int a7)] → fX12_scales_c13 n a1 a2 a3 a5 a7 σ = some o1 → W p l e rmX12_scales s m args below meth c H locs 0 0 (MQ below (xQv E A o1) args s 0 0 A) (F0 m 13 ls []) := by
    intro n13
    induction n13 with
    | zero => intro a1 a2 a3 a5 a7 σ H locs ls hw hl hf; exact nomatch hf
    | succ n13 ih13 =>
      intro a1 a2 a3 a5 a7 σ H locs ls hw hl hf
      rw [fX12_scales_c13_s] at hf
      refine lv_iload hx hb dX12_scales_13 (lv_at hl 5 rfl) ?_
      refine lv_bipush (v := 8) hx hb dX12_scales_15 (by decide) ?_
      refine lv_icmp_ge (tgt := 58) hx hb dX12_scales_17 (by decide) (fun c17 => ?_) (fun c17 => ?_)
      · replace hf := xif_pos c17 hf
        exact x_vret hx hb hr hlk hw hf dX12_scales_58
      · replace hf := xif_neg c17 hf
        refine lv_iload_n hx hb dX12_scales_20 rfl (lv_at hl 2 rfl) ?_
        refine lv_i2l hx hb dX12_scales_21 rfl ?_
        refine lv_aload_n hx hb dX12_scales_22 rfl (lv_at hl 0 rfl) ?_
        refine lv_iload_n hx hb dX12_scales_23 rfl (lv_at hl 1 rfl) ?_
        refine lv_iload hx hb dX12_scales_24 (lv_at hl 5 rfl) ?_
        obtain ⟨r4, σ5, hcl, hf⟩ := xc2_f hf
        refine x_calli (va_runV (As := [.int a1, .int a7]) (rest := [.long (Int32.toInt64 a2)]) ⟨hx, hb, hml, hown, hts⟩ (mX12_partsUpTo hE a1 a7 σ r4 σ5 hcl H.size) (cwV 2 hts gX12_scales_X12_partsUpTo rfl rfl rfl (by decide +kernel) ⟨Nat.le_of_ble_eq_true rfl, Nat.le_of_ble_eq_true rfl⟩) (x_preV _ hw hA hG (cM0 hE) rfl) rfl rfl hl.1 rfl (lv_room (Nat.le_of_ble_eq_true rfl)) dX12_scales_26 ⟨Nat.le_of_ble_eq_true rfl, Nat.le_of_ble_eq_true rfl⟩) hw hA (fun H locs hw => ?_)
        clear hcl
        refine lv_i2l hx hb dX12_scales_29 rfl ?_
        refine lv_lmul hx hb dX12_scales_30 ?_
        refine lv_lload_n hx hb dX12_scales_31 rfl (lv_at hl 3 rfl) ?_
        obtain ⟨hne, hf⟩ := xnzl_e hf
        refine lv_ldiv hx hb dX12_scales_32 hne ?_
        refine lv_topl (fun v6 ex => ?_)
        replace hf := xl_f hf v6 ex
        clear ex
        refine lv_lstore (lv' := [(8, .long v6), (0, .ref (E.a 0)), (1, .int a1), (2, .int a2), (3, .long a3), (5, .long a5), (7, .int a7)]) hx hb dX12_scales_33 hl (by decide) rfl (fun ls hl => ?_)
        refine lv_aload_n hx hb dX12_scales_35 rfl (lv_at hl 1 rfl) ?_
        refine x_getr hx hb hw (cM0 hE) (own := RX12) (ref := RX12) (C := RX12) (T := TX12) (N := 20) hts hiX12 hown rfl 8 (by decide) hk22 (fun _ h9 => h9) rfl dX12_scales_36 ?_
        refine lv_iload hx hb dX12_scales_39 (lv_at hl 6 rfl) ?_
        refine lv_lload hx hb dX12_scales_41 (lv_at hl 0 rfl) ?_
        refine lv_lload hx hb dX12_scales_43 (lv_at hl 5 rfl) ?_
        refine lv_lsub hx hb dX12_scales_45 ?_
        refine lv_l2i hx hb dX12_scales_46 rfl ?_
        obtain ⟨hin, hf⟩ := xs_f hf
        refine x_iast hx hb hw (cM5 hE) hin dX12_scales_47 (fun σ7 H locs ex hw => ?_)
        replace hf := hf σ7 ex
        clear ex hin
        refine lv_lload hx hb dX12_scales_48 (lv_at hl 0 rfl) ?_
        refine lv_lstore (lv' := [(5, .long v6), (8, .long v6), (0, .ref (E.a 0)), (1, .int a1), (2, .int a2), (3, .long a3), (7, .int a7)]) hx hb dX12_scales_50 hl (by decide) rfl (fun ls hl => ?_)
        obtain ⟨v8, ex⟩ : ∃ y : Int32, y = (a7 + 1) := ⟨_, rfl⟩
        replace hf := xl_f hf v8 ex
        refine lv_iinc (v := v8) (lv' := [(7, .int v8), (5, .long v6), (8, .long v6), (0, .ref (E.a 0)), (1, .int a1), (2, .int a2), (3, .long a3)]) hx hb dX12_scales_52 hl (k := 6) rfl (by rw [ex]; rfl) (by decide) rfl (fun ls hl => ?_)
        clear ex
        refine lv_goto (tgt := 13) hx hb dX12_scales_55 (by decide) ?_
        exact ih13 a1 a2 a3 v6 v8 σ7 _ _ _ hw (lv_sub hl [3, 4, 5, 6, 1, 0] rfl) hf
  refine lv_aload_n hx hb dX12_scales_0 rfl (lv_at hl 0 rfl) ?_
  refine lv_iload_n hx hb dX12_scales_1 rfl (lv_at hl 1 rfl) ?_
  obtain ⟨r1, σ2, hcl, hf⟩ := xc2_f hf
  refine x_calli (va_runV (As := [.int p0]) (rest := []) ⟨hx, hb, hml, hown, hts⟩ (mX12_allParts hE p0 σ r1 σ2 hcl s.heap.size) (cwV 1 hts gX12_scales_X12_allParts rfl rfl rfl (by decide +kernel) ⟨Nat.le_of_ble_eq_true rfl, Nat.le_of_ble_eq_true rfl⟩) (x_preV _ hw hA hG (cM0 hE) rfl) rfl rfl hl.1 rfl (lv_room (Nat.le_of_ble_eq_true rfl)) dX12_scales_2 ⟨Nat.le_of_ble_eq_true rfl, Nat.le_of_ble_eq_true rfl⟩) hw hA (fun H locs hw => ?_)
  clear hcl
  refine lv_i2l hx hb dX12_scales_5 rfl ?_
  refine lv_topl (fun v3 ex => ?_)
  replace hf := xl_f hf v3 ex
  clear ex
  refine lv_lstore_n (lv' := [(3, .long v3), (0, .ref (E.a 0)), (1, .int p0), (2, .int p1)]) hx hb dX12_scales_6 rfl hl (by decide) rfl (fun ls hl => ?_)
  refine lv_lconst (v := 0) hx hb dX12_scales_7 (by decide) ?_
  refine lv_lstore (lv' := [(5, .long 0), (3, .long v3), (0, .ref (E.a 0)), (1, .int p0), (2, .int p1)]) hx hb dX12_scales_8 hl (by decide) rfl (fun ls hl => ?_)
  refine lv_iconst (v := 0) hx hb dX12_scales_10 (by decide) ?_
  refine lv_istore (lv' := [(7, .int 0), (5, .long 0), (3, .long v3), (0, .ref (E.a 0)), (1, .int p0), (2, .int p1)]) hx hb dX12_scales_11 hl (by decide) rfl (fun ls hl => ?_)
  exact h13 xFU p0 p1 v3 0 0 σ2 _ _ _ hw (lv_sub hl [3, 4, 5, 2, 1, 0] rfl) hf

def fX12_amount_c57 (a1 : Int32) (a2 : Int32) (a3 : Int32) (t0 : Int32) (σ : xSt) : Option (Int32 × xSt) := (xc2 (fX12_can t0 3 σ) fun r13 σ14 => (if r13 = 0 then some (0, σ14) else (xc (fX12_scales a1 a2 σ14) fun σ16 => (xr σ16 5 8 a3 fun v17 => some (v17, σ16)))))
def fX12_amount_c21 (a1 : Int32) (a2 : Int32) (a3 : Int32) (t0 : Int32) (σ : xSt) : Option (Int32 × xSt) := (xc2 (fX12_can t0 1 σ) fun r5 σ6 => (if r5 = 0 then some (0, σ6) else (xc2 (fX12_in a2 1 100000 σ6) fun r7 σ8 => (xc2 (fX12_can r7 2 σ8) fun r9 σ10 => (if r9 = 0 then some (0, σ10) else (xc2 (fX12_allParts a1 σ10) fun r11 σ12 => (if r11 ≤ 0 then fX12_amount_c57 a1 a2 a3 0 σ12 else fX12_amount_c57 a1 a2 a3 1 σ12)))))))
def fX12_amount_c20 (a1 : Int32) (a2 : Int32) (a3 : Int32) (σ : xSt) : Option (Int32 × xSt) := fX12_amount_c21 a1 a2 a3 0 σ
def fX12_amount (p0 : Int32) (p1 : Int32) (p2 : Int32) (σ : xSt) : Option (Int32 × xSt) := (xc2 (fX12_isRecipe p0 σ) fun r1 σ2 => (if r1 = 0 then fX12_amount_c20 p0 p1 p2 σ2 else (xc2 (fX12_isGood p2 σ2) fun r3 σ4 => (if r3 = 0 then fX12_amount_c20 p0 p1 p2 σ4 else fX12_amount_c21 p0 p1 p2 1 σ4))))
abbrev rmX12_amount : Room := { frames := 3, cells := 0, slots := 0, locals := 74 }
set_option maxRecDepth 100000 in
set_option maxHeartbeats 4000000 in
theorem mX12_amount {l : Launch} {E : xE} (hE : E.sh = shM) (p0 : Int32) (p1 : Int32) (p2 : Int32) (σ : xSt) (o1 : Int32) (o2 : xSt) (hf : fX12_amount p0 p1 p2 σ = some (o1, o2)) : xMi l yX12_amount wsX12_amount rmX12_amount E [.ref (E.a 0), .int p0, .int p1, .int p2] σ o1 o2 := by
  unfold fX12_amount at hf
  refine xMi_of (cc := cX12_amount) (maxL := 4) (ret := (some .int)) (by decide) rfl (Nat.le_of_ble_eq_true rfl) ?_
  intro p e s m args below meth c A ls ⟨hx, hb, hr, hml, hown, hts, hlk⟩ hA hG hw hl
  have hown : s.vm.findClass RX12 = some m.cls := hown
  have hl : lv_has ls 4 [(0, .ref (E.a 0)), (1, .int p0), (2, .int p1), (3, .int p2)] := hl
  have hk22 := hts (.fieldLink RX12 22 "OvenRoundModel" "amounts" "[I") (by decide +kernel)
  have hiX12 : ∀ w ∈ wsX120, w ∈ wsX12_amount := by decide +kernel
  have h57 : ∀ (a1 : Int32) (a2 : Int32) (a3 : Int32) (t0 : Int32) (σ : xSt) (H : Heap) (locs : List Loc) (ls : Array Slot), xw E A s.heap s σ H locs → lv_has ls 4 [(0, .ref (E.a 0)), (1, .int a1), (2, .int a2), (3, .int a3)] → fX12_amount_c57 a1 a2 a3 t0 σ = some (o1, o2) → W p l e rmX12_amount s m args below meth c H locs 0 0 (MQ below (xQi E A o1 o2) args s 0 0 A) (F0 m 57 ls [.int t0, .ref (E.a 0)]) := by
    intro a1 a2 a3 t0 σ H locs ls hw hl hf
    unfold fX12_amount_c57 at hf
    refine lv_iconst (v := 3) hx hb dX12_amount_57 (by decide) ?_
    obtain ⟨r13, σ14, hcl, hf⟩ := xc2_f hf
    refine x_calli (va_runV (As := [.int t0, .int 3]) (rest := []) ⟨hx, hb, hml, hown, hts⟩ (mX12_can hE t0 3 σ r13 σ14 hcl H.size) (cwV 2 hts gX12_amount_X12_can rfl rfl rfl (by decide +kernel) ⟨Nat.le_of_ble_eq_true rfl, Nat.le_of_ble_eq_true rfl⟩) (x_preV _ hw hA hG (cM0 hE) rfl) rfl rfl hl.1 rfl (lv_room (Nat.le_of_ble_eq_true rfl)) dX12_amount_58 ⟨Nat.le_of_ble_eq_true rfl, Nat.le_of_ble_eq_true rfl⟩) hw hA (fun H locs hw => ?_)
    clear hcl
    refine lv_if_ne (tgt := 66) hx hb dX12_amount_61 (by decide) (fun c61 => ?_) (fun c61 => ?_)
    · replace hf := xif_neg c61 hf
      refine lv_aload_n hx hb dX12_amount_66 rfl (lv_at hl 0 rfl) ?_
      refine lv_iload_n hx hb dX12_amount_67 rfl (lv_at hl 1 rfl) ?_
      refine lv_iload_n hx hb dX12_amount_68 rfl (lv_at hl 2 rfl) ?_
      obtain ⟨σ16, hcl, hf⟩ := xc_e hf
      refine x_callv (va_runV (As := [.int a1, .int a2]) (rest := []) ⟨hx, hb, hml, hown, hts⟩ (mX12_scales hE a1 a2 σ14 σ16 hcl H.size) (cwV 2 hts gX12_amount_X12_scales rfl rfl rfl (by decide +kernel) ⟨Nat.le_of_ble_eq_true rfl, Nat.le_of_ble_eq_true rfl⟩) (x_preV _ hw hA hG (cM0 hE) rfl) rfl rfl hl.1 rfl (lv_room (Nat.le_of_ble_eq_true rfl)) dX12_amount_69 ⟨Nat.le_of_ble_eq_true rfl, Nat.le_of_ble_eq_true rfl⟩) hw hA (fun H locs hw => ?_)
      clear hcl
      refine lv_aload_n hx hb dX12_amount_72 rfl (lv_at hl 0 rfl) ?_
      refine x_getr hx hb hw (cM0 hE) (own := RX12) (ref := RX12) (C := RX12) (T := TX12) (N := 20) hts hiX12 hown rfl 8 (by decide) hk22 (fun _ h9 => h9) rfl dX12_amount_73 ?_
      refine lv_iload_n hx hb dX12_amount_76 rfl (lv_at hl 3 rfl) ?_
      obtain ⟨hin, hf⟩ := xr_f hf
      refine x_iald hx hb hw (cM5 hE) hin dX12_amount_77 ?_
      refine lv_topi (fun v17 ex => ?_)
      replace hf := hf v17 ex
      clear ex hin
      exact x_iret hx hb hr hlk hw hf dX12_amount_78
    · replace hf := xif_pos c61 hf
      refine lv_iconst (v := 0) hx hb dX12_amount_64 (by decide) ?_
      exact x_iret hx hb hr hlk hw hf dX12_amount_65
  have h21 : ∀ (a1 : Int32) (a2 : Int32) (a3 : Int32) (t0 : Int32) (σ : xSt) (H : Heap) (locs : List Loc) (ls : Array Slot), xw E A s.heap s σ H locs → lv_has ls 4 [(0, .ref (E.a 0)), (1, .int a1), (2, .int a2), (3, .int a3)] → fX12_amount_c21 a1 a2 a3 t0 σ = some (o1, o2) → W p l e rmX12_amount s m args below meth c H locs 0 0 (MQ below (xQi E A o1 o2) args s 0 0 A) (F0 m 21 ls [.int t0, .ref (E.a 0)]) := by
    intro a1 a2 a3 t0 σ H locs ls hw hl hf
    unfold fX12_amount_c21 at hf
    refine lv_iconst (v := 1) hx hb dX12_amount_21 (by decide) ?_
    obtain ⟨r5, σ6, hcl, hf⟩ := xc2_f hf
    refine x_calli (va_runV (As := [.int t0, .int 1]) (rest := []) ⟨hx, hb, hml, hown, hts⟩ (mX12_can hE t0 1 σ r5 σ6 hcl H.size) (cwV 2 hts gX12_amount_X12_can rfl rfl rfl (by decide +kernel) ⟨Nat.le_of_ble_eq_true rfl, Nat.le_of_ble_eq_true rfl⟩) (x_preV _ hw hA hG (cM0 hE) rfl) rfl rfl hl.1 rfl (lv_room (Nat.le_of_ble_eq_true rfl)) dX12_amount_22 ⟨Nat.le_of_ble_eq_true rfl, Nat.le_of_ble_eq_true rfl⟩) hw hA (fun H locs hw => ?_)
    clear hcl
    refine lv_if_eq (tgt := 64) hx hb dX12_amount_25 (by decide) (fun c25 => ?_) (fun c25 => ?_)
    · replace hf := xif_pos c25 hf
      refine lv_iconst (v := 0) hx hb dX12_amount_64 (by decide) ?_
      exact x_iret hx hb hr hlk hw hf dX12_amount_65
    · replace hf := xif_neg c25 hf
      refine lv_aload_n hx hb dX12_amount_28 rfl (lv_at hl 0 rfl) ?_
      refine lv_iload_n hx hb dX12_amount_29 rfl (lv_at hl 2 rfl) ?_
      refine lv_iconst (v := 1) hx hb dX12_amount_30 (by decide) ?_
      refine lv_ldc hx hb hown (hts (.constant RX12 88 (100000)) (by decide +kernel)) dX12_amount_31 ?_
      obtain ⟨r7, σ8, hcl, hf⟩ := xc2_f hf
      refine x_calli (va_runS (As := [.int a2, .int 1, .int 100000]) (rest := [.ref (E.a 0)]) ⟨hx, hb, hml, hown, hts⟩ (mX12_in hE a2 1 100000 σ6 r7 σ8 hcl H.size) (va_cwS 3 hts gX12_amount_X12_in rfl rfl rfl (by decide +kernel) ⟨Nat.le_of_ble_eq_true rfl, Nat.le_of_ble_eq_true rfl⟩) (x_preS _ hw hA hG) rfl rfl hl.1 rfl (lv_room (Nat.le_of_ble_eq_true rfl)) dX12_amount_33 ⟨Nat.le_of_ble_eq_true rfl, Nat.le_of_ble_eq_true rfl⟩) hw hA (fun H locs hw => ?_)
      clear hcl
      refine lv_iconst (v := 2) hx hb dX12_amount_36 (by decide) ?_
      obtain ⟨r9, σ10, hcl, hf⟩ := xc2_f hf
      refine x_calli (va_runV (As := [.int r7, .int 2]) (rest := []) ⟨hx, hb, hml, hown, hts⟩ (mX12_can hE r7 2 σ8 r9 σ10 hcl H.size) (cwV 2 hts gX12_amount_X12_can rfl rfl rfl (by decide +kernel) ⟨Nat.le_of_ble_eq_true rfl, Nat.le_of_ble_eq_true rfl⟩) (x_preV _ hw hA hG (cM0 hE) rfl) rfl rfl hl.1 rfl (lv_room (Nat.le_of_ble_eq_true rfl)) dX12_amount_37 ⟨Nat.le_of_ble_eq_true rfl, Nat.le_of_ble_eq_true rfl⟩) hw hA (fun H locs hw => ?_)
      clear hcl
      refine lv_if_eq (tgt := 64) hx hb dX12_amount_40 (by decide) (fun c40 => ?_) (fun c40 => ?_)
      · replace hf := xif_pos c40 hf
        refine lv_iconst (v := 0) hx hb dX12_amount_64 (by decide) ?_
        exact x_iret hx hb hr hlk hw hf dX12_amount_65
      · replace hf := xif_neg c40 hf
        refine lv_aload_n hx hb dX12_amount_43 rfl (lv_at hl 0 rfl) ?_
        refine lv_aload_n hx hb dX12_amount_44 rfl (lv_at hl 0 rfl) ?_
        refine lv_iload_n hx hb dX12_amount_45 rfl (lv_at hl 1 rfl) ?_
        obtain ⟨r11, σ12, hcl, hf⟩ := xc2_f hf
        refine x_calli (va_runV (As := [.int a1]) (rest := [.ref (E.a 0)]) ⟨hx, hb, hml, hown, hts⟩ (mX12_allParts hE a1 σ10 r11 σ12 hcl H.size) (cwV 1 hts gX12_amount_X12_allParts rfl rfl rfl (by decide +kernel) ⟨Nat.le_of_ble_eq_true rfl, Nat.le_of_ble_eq_true rfl⟩) (x_preV _ hw hA hG (cM0 hE) rfl) rfl rfl hl.1 rfl (lv_room (Nat.le_of_ble_eq_true rfl)) dX12_amount_46 ⟨Nat.le_of_ble_eq_true rfl, Nat.le_of_ble_eq_true rfl⟩) hw hA (fun H locs hw => ?_)
        clear hcl
        refine lv_if_le (tgt := 56) hx hb dX12_amount_49 (by decide) (fun c49 => ?_) (fun c49 => ?_)
        · replace hf := xif_pos c49 hf
          refine lv_iconst (v := 0) hx hb dX12_amount_56 (by decide) ?_
          exact h57 a1 a2 a3 0 σ12 _ _ _ hw (lv_sub hl [0, 1, 2, 3] rfl) hf
        · replace hf := xif_neg c49 hf
          refine lv_iconst (v := 1) hx hb dX12_amount_52 (by decide) ?_
          refine lv_goto (tgt := 57) hx hb dX12_amount_53 (by decide) ?_
          exact h57 a1 a2 a3 1 σ12 _ _ _ hw (lv_sub hl [0, 1, 2, 3] rfl) hf
  have h20 : ∀ (a1 : Int32) (a2 : Int32) (a3 : Int32) (σ : xSt) (H : Heap) (locs : List Loc) (ls : Array Slot), xw E A s.heap s σ H locs → lv_has ls 4 [(0, .ref (E.a 0)), (1, .int a1), (2, .int a2), (3, .int a3)] → fX12_amount_c20 a1 a2 a3 σ = some (o1, o2) → W p l e rmX12_amount s m args below meth c H locs 0 0 (MQ below (xQi E A o1 o2) args s 0 0 A) (F0 m 20 ls [.ref (E.a 0)]) := by
    intro a1 a2 a3 σ H locs ls hw hl hf
    unfold fX12_amount_c20 at hf
    refine lv_iconst (v := 0) hx hb dX12_amount_20 (by decide) ?_
    exact h21 a1 a2 a3 0 σ _ _ _ hw (lv_sub hl [0, 1, 2, 3] rfl) hf
  refine lv_aload_n hx hb dX12_amount_0 rfl (lv_at hl 0 rfl) ?_
  refine lv_aload_n hx hb dX12_amount_1 rfl (lv_at hl 0 rfl) ?_
  refine lv_iload_n hx hb dX12_amount_2 rfl (lv_at hl 1 rfl) ?_
  obtain ⟨r1, σ2, hcl, hf⟩ := xc2_f hf
  refine x_calli (va_runV (As := [.int p0]) (rest := [.ref (E.a 0)]) ⟨hx, hb, hml, hown, hts⟩ (mX12_isRecipe hE p0 σ r1 σ2 hcl s.heap.size) (cwV 1 hts gX12_amount_X12_isRecipe rfl rfl rfl (by decide +kernel) ⟨Nat.le_of_ble_eq_true rfl, Nat.le_of_ble_eq_true rfl⟩) (x_preV _ hw hA hG (cM0 hE) rfl) rfl rfl hl.1 rfl (lv_room (Nat.le_of_ble_eq_true rfl)) dX12_amount_3 ⟨Nat.le_of_ble_eq_true rfl, Nat.le_of_ble_eq_true rfl⟩) hw hA (fun H locs hw => ?_)
  clear hcl
  refine lv_if_eq (tgt := 20) hx hb dX12_amount_6 (by decide) (fun c6 => ?_) (fun c6 => ?_)
  · replace hf := xif_pos c6 hf
    exact h20 p0 p1 p2 σ2 _ _ _ hw (lv_sub hl [0, 1, 2, 3] rfl) hf
  · replace hf := xif_neg c6 hf
    refine lv_iload_n hx hb dX12_amount_9 rfl (lv_at hl 3 rfl) ?_
    obtain ⟨r3, σ4, hcl, hf⟩ := xc2_f hf
    refine x_calli (va_runS (As := [.int p2]) (rest := [.ref (E.a 0)]) ⟨hx, hb, hml, hown, hts⟩ (mX12_isGood hE p2 σ2 r3 σ4 hcl H.size) (va_cwS 1 hts gX12_amount_X12_isGood rfl rfl rfl (by decide +kernel) ⟨Nat.le_of_ble_eq_true rfl, Nat.le_of_ble_eq_true rfl⟩) (x_preS _ hw hA hG) rfl rfl hl.1 rfl (lv_room (Nat.le_of_ble_eq_true rfl)) dX12_amount_10 ⟨Nat.le_of_ble_eq_true rfl, Nat.le_of_ble_eq_true rfl⟩) hw hA (fun H locs hw => ?_)
    clear hcl
    refine lv_if_eq (tgt := 20) hx hb dX12_amount_13 (by decide) (fun c13 => ?_) (fun c13 => ?_)
    · replace hf := xif_pos c13 hf
      exact h20 p0 p1 p2 σ4 _ _ _ hw (lv_sub hl [0, 1, 2, 3] rfl) hf
    · replace hf := xif_neg c13 hf
      refine lv_iconst (v := 1) hx hb dX12_amount_16 (by decide) ?_
      refine lv_goto (tgt := 21) hx hb dX12_amount_17 (by decide) ?_
      exact h21 p0 p1 p2 1 σ4 _ _ _ hw (lv_sub hl [0, 1, 2, 3] rfl) hf

def fX12_recipeCount (σ : xSt) : Option (Int32 × xSt) := (xp σ 0 0 0 fun σ1 => (xr σ1 1 680 5 fun v2 => some (v2, σ1)))
abbrev rmX12_recipeCount : Room := { frames := 0, cells := 0, slots := 0, locals := 0 }
set_option maxRecDepth 100000 in
set_option maxHeartbeats 4000000 in
theorem mX12_recipeCount {l : Launch} {E : xE} (hE : E.sh = shM) (σ : xSt) (o1 : Int32) (o2 : xSt) (hf : fX12_recipeCount σ = some (o1, o2)) : xMi l yX12_recipeCount wsX12_recipeCount rmX12_recipeCount E [.ref (E.a 0)] σ o1 o2 := by
  unfold fX12_recipeCount at hf
  refine xMi_of (cc := cX12_recipeCount) (maxL := 1) (ret := (some .int)) (by decide) rfl (Nat.le_of_ble_eq_true rfl) ?_
  intro p e s m args below meth c A ls ⟨hx, hb, hr, hml, hown, hts, hlk⟩ hA hG hw hl
  have hown : s.vm.findClass RX12 = some m.cls := hown
  have hl : lv_has ls 1 [(0, .ref (E.a 0))] := hl
  have hk46 := hts (.fieldLink RX12 46 "OvenRoundModel" "raised" "I") (by decide +kernel)
  have hiX12 : ∀ w ∈ wsX120, w ∈ wsX12_recipeCount := by decide +kernel
  have hk9 := hts (.fieldLink RX12 9 "OvenRoundModel" "w" "[I") (by decide +kernel)
  refine lv_aload_n hx hb dX12_recipeCount_0 rfl (lv_at hl 0 rfl) ?_
  refine lv_iconst (v := 0) hx hb dX12_recipeCount_1 (by decide) ?_
  refine x_puti hx hb hw (cM0 hE) (own := RX12) (ref := RX12) (C := RX12) (T := TX12) (N := 20) hts hiX12 tyX12 tyX12_ok nmX12 hown rfl 0 (by decide) hk46 (fun _ h9 => h9) rfl (by decide +kernel) rfl dX12_recipeCount_2 (fun σ1 H locs ex hw => ?_)
  replace hf := xp_f hf σ1 ex
  clear ex
  refine lv_aload_n hx hb dX12_recipeCount_5 rfl (lv_at hl 0 rfl) ?_
  refine x_getr hx hb hw (cM0 hE) (own := RX12) (ref := RX12) (C := RX12) (T := TX12) (N := 20) hts hiX12 hown rfl 1 (by decide) hk9 (fun _ h9 => h9) rfl dX12_recipeCount_6 ?_
  refine lv_iconst (v := 5) hx hb dX12_recipeCount_9 (by decide) ?_
  obtain ⟨hin, hf⟩ := xr_f hf
  refine x_iald hx hb hw (cM1 hE) hin dX12_recipeCount_10 ?_
  refine lv_topi (fun v2 ex => ?_)
  replace hf := hf v2 ex
  clear ex hin
  exact x_iret hx hb hr hlk hw hf dX12_recipeCount_11

def fX12_isDough (p0 : Int32) (σ : xSt) : Option (Int32 × xSt) := (xr σ 1 680 6 fun v1 => (xc2 (fX12_in p0 0 (v1 - 1) σ) fun r2 σ3 => xb r2 (some (r2, σ3))))
abbrev rmX12_isDough : Room := { frames := 1, cells := 0, slots := 0, locals := 22 }
set_option maxRecDepth 100000 in
set_option maxHeartbeats 4000000 in
theorem mX12_isDough {l : Launch} {E : xE} (hE : E.sh = shM) (p0 : Int32) (σ : xSt) (o1 : Int32) (o2 : xSt) (hf : fX12_isDough p0 σ = some (o1, o2)) : xMi l yX12_isDough wsX12_isDough rmX12_isDough E [.ref (E.a 0), .int p0] σ o1 o2 := by
  unfold fX12_isDough at hf
  refine xMi_of (cc := cX12_isDough) (maxL := 2) (ret := (some .boolean)) (by decide) rfl (Nat.le_of_ble_eq_true rfl) ?_
  intro p e s m args below meth c A ls ⟨hx, hb, hr, hml, hown, hts, hlk⟩ hA hG hw hl
  have hown : s.vm.findClass RX12 = some m.cls := hown
  have hl : lv_has ls 2 [(0, .ref (E.a 0)), (1, .int p0)] := hl
  have hk9 := hts (.fieldLink RX12 9 "OvenRoundModel" "w" "[I") (by decide +kernel)
  have hiX12 : ∀ w ∈ wsX120, w ∈ wsX12_isDough := by decide +kernel
  refine lv_iload_n hx hb dX12_isDough_0 rfl (lv_at hl 1 rfl) ?_
  refine lv_iconst (v := 0) hx hb dX12_isDough_1 (by decide) ?_
  refine lv_aload_n hx hb dX12_isDough_2 rfl (lv_at hl 0 rfl) ?_
  refine x_getr hx hb hw (cM0 hE) (own := RX12) (ref := RX12) (C := RX12) (T := TX12) (N := 20) hts hiX12 hown rfl 1 (by decide) hk9 (fun _ h9 => h9) rfl dX12_isDough_3 ?_
  refine lv_bipush (v := 6) hx hb dX12_isDough_6 (by decide) ?_
  obtain ⟨hin, hf⟩ := xr_f hf
  refine x_iald hx hb hw (cM1 hE) hin dX12_isDough_8 ?_
  refine lv_topi (fun v1 ex => ?_)
  replace hf := hf v1 ex
  clear ex hin
  refine lv_iconst (v := 1) hx hb dX12_isDough_9 (by decide) ?_
  refine lv_isub hx hb dX12_isDough_10 ?_
  obtain ⟨r2, σ3, hcl, hf⟩ := xc2_f hf
  refine x_calli (va_runS (As := [.int p0, .int 0, .int (v1 - 1)]) (rest := []) ⟨hx, hb, hml, hown, hts⟩ (mX12_in hE p0 0 (v1 - 1) σ r2 σ3 hcl s.heap.size) (va_cwS 3 hts gX12_isDough_X12_in rfl rfl rfl (by decide +kernel) ⟨Nat.le_of_ble_eq_true rfl, Nat.le_of_ble_eq_true rfl⟩) (x_preS _ hw hA hG) rfl rfl hl.1 rfl (lv_room (Nat.le_of_ble_eq_true rfl)) dX12_isDough_11 ⟨Nat.le_of_ble_eq_true rfl, Nat.le_of_ble_eq_true rfl⟩) hw hA (fun H locs hw => ?_)
  clear hcl
  exact x_zret hx hb hr hlk hw hf dX12_isDough_14
