def fX12_readParts_c49 : Nat → Int32 → Int32 → xSt → Option (Int32 × xSt)
  | 0 => fun _ _ _ => none
  | n + 1 => fun a1 a3 σ => (if 8 ≤ a3 then (xc2 (fX12_allParts a1 σ) fun r12 σ13 => some (r12, σ13)) else (xr σ 4 8 a3 fun v14 => (xs σ 1 680 ((55 + (8 * a1)) + a3) v14 fun σ15 => (xl (a3 + 1) fun v16 => fX12_readParts_c49 n a1 v16 σ15))))
theorem fX12_readParts_c49_s (n : Nat) (a1 : Int32) (a3 : Int32) (σ : xSt) : fX12_readParts_c49 (n + 1) a1 a3 σ = ((if 8 ≤ a3 then (xc2 (fX12_allParts a1 σ) fun r12 σ13 => some (r12, σ13)) else (xr σ 4 8 a3 fun v14 => (xs σ 1 680 ((55 + (8 * a1)) + a3) v14 fun σ15 => (xl (a3 + 1) fun v16 => fX12_readParts_c49 n a1 v16 σ15)))) : Option (Int32 × xSt)) := rfl
def fX12_readParts_c13 (a1 : Int32) (t0 : Int32) (σ : xSt) : Option (Int32 × xSt) := (xp σ 0 6 0 fun σ3 => (xc2 (fX12_isRecipe a1 σ3) fun r4 σ5 => (xc2 (fX12_can r4 1 σ5) fun r6 σ7 => (if r6 = 0 then some (0, σ7) else (xc2 (fX12_can t0 2 σ7) fun r8 σ9 => (if r8 = 0 then some (0, σ9) else (xc (fX12_keep σ9) fun σ11 => fX12_readParts_c49 xFU a1 0 σ11)))))))
def fX12_readParts (p0 : Int32) (σ : xSt) : Option (Int32 × xSt) := (xc2 (fX12_faultNow σ) fun r1 σ2 => (if r1 = (-1) then fX12_readParts_c13 p0 1 σ2 else fX12_readParts_c13 p0 0 σ2))
abbrev rmX12_readParts : Room := { frames := 3, cells := 0, slots := 0, locals := 71 }
set_option maxRecDepth 100000 in
set_option maxHeartbeats 4000000 in
theorem mX12_readParts {l : Launch} {E : xE} (hE : E.sh = shM) (p0 : Int32) (σ : xSt) (o1 : Int32) (o2 : xSt) (hf : fX12_readParts p0 σ = some (o1, o2)) : xMi l yX12_readParts wsX12_readParts rmX12_readParts E [.ref (E.a 0), .int p0] σ o1 o2 := by
  unfold fX12_readParts at hf
  refine xMi_of (cc := cX12_readParts) (maxL := 4) (ret := (some .int)) (by decide) rfl (Nat.le_of_ble_eq_true rfl) ?_
  intro p e s m args below meth c A ls ⟨hx, hb, hr, hml, hown, hts, hlk⟩ hA hG hw hl
  have hown : s.vm.findClass RX12 = some m.cls := hown
  have hl : lv_has ls 4 [(0, .ref (E.a 0)), (1, .int p0)] := hl
  have hk248 := hts (.fieldLink RX12 248 "OvenRoundModel" "length" "I") (by decide +kernel)
  have hiX12 : ∀ w ∈ wsX120, w ∈ wsX12_readParts := by decide +kernel
  have hk9 := hts (.fieldLink RX12 9 "OvenRoundModel" "w" "[I") (by decide +kernel)
  have hk19 := hts (.fieldLink RX12 19 "OvenRoundModel" "read" "[I") (by decide +kernel)
  have h49 : ∀ (n : Nat) (a1 : Int32) (a3 : Int32) (σ : xSt) (H : Heap) (locs : List Loc) (ls : Array Slot), xw E A s.heap s σ H locs → lv_has ls 4 [(0, .ref (E.a 0)), (1, .int a1), (3, .int a3)] → fX12_readParts_c49 n a1 a3 σ = some (o1, o2) → W p l e rmX12_readParts s m args below meth c H locs 0 0 (MQ below (xQi E A o1 o2) args s 0 0 A) (F0 m 49 ls []) := by
    intro n49
    induction n49 with
    | zero => intro a1 a3 σ H locs ls hw hl hf; exact nomatch hf
    | succ n49 ih49 =>
      intro a1 a3 σ H locs ls hw hl hf
      rw [fX12_readParts_c49_s] at hf
      refine lv_iload_n hx hb dX12_readParts_49 rfl (lv_at hl 2 rfl) ?_
      refine lv_bipush (v := 8) hx hb dX12_readParts_50 (by decide) ?_
      refine lv_icmp_ge (tgt := 81) hx hb dX12_readParts_52 (by decide) (fun c52 => ?_) (fun c52 => ?_)
      · replace hf := xif_pos c52 hf
        refine lv_aload_n hx hb dX12_readParts_81 rfl (lv_at hl 0 rfl) ?_
        refine lv_iload_n hx hb dX12_readParts_82 rfl (lv_at hl 1 rfl) ?_
        obtain ⟨r12, σ13, hcl, hf⟩ := xc2_f hf
        refine x_calli (va_runV (As := [.int a1]) (rest := []) ⟨hx, hb, hml, hown, hts⟩ (mX12_allParts hE a1 σ r12 σ13 hcl H.size) (cwV 1 hts gX12_readParts_X12_allParts rfl rfl rfl (by decide +kernel) ⟨Nat.le_of_ble_eq_true rfl, Nat.le_of_ble_eq_true rfl⟩) (x_preV _ hw hA hG (cM0 hE) rfl) rfl rfl hl.1 rfl (lv_room (Nat.le_of_ble_eq_true rfl)) dX12_readParts_83 ⟨Nat.le_of_ble_eq_true rfl, Nat.le_of_ble_eq_true rfl⟩) hw hA (fun H locs hw => ?_)
        clear hcl
        exact x_iret hx hb hr hlk hw hf dX12_readParts_86
      · replace hf := xif_neg c52 hf
        refine lv_aload_n hx hb dX12_readParts_55 rfl (lv_at hl 0 rfl) ?_
        refine x_getr hx hb hw (cM0 hE) (own := RX12) (ref := RX12) (C := RX12) (T := TX12) (N := 20) hts hiX12 hown rfl 1 (by decide) hk9 (fun _ h9 => h9) rfl dX12_readParts_56 ?_
        refine lv_bipush (v := 55) hx hb dX12_readParts_59 (by decide) ?_
        refine lv_bipush (v := 8) hx hb dX12_readParts_61 (by decide) ?_
        refine lv_iload_n hx hb dX12_readParts_63 rfl (lv_at hl 1 rfl) ?_
        refine lv_imul hx hb dX12_readParts_64 ?_
        refine lv_iadd hx hb dX12_readParts_65 ?_
        refine lv_iload_n hx hb dX12_readParts_66 rfl (lv_at hl 2 rfl) ?_
        refine lv_iadd hx hb dX12_readParts_67 ?_
        refine lv_aload_n hx hb dX12_readParts_68 rfl (lv_at hl 0 rfl) ?_
        refine x_getr hx hb hw (cM0 hE) (own := RX12) (ref := RX12) (C := RX12) (T := TX12) (N := 20) hts hiX12 hown rfl 7 (by decide) hk19 (fun _ h9 => h9) rfl dX12_readParts_69 ?_
        refine lv_iload_n hx hb dX12_readParts_72 rfl (lv_at hl 2 rfl) ?_
        obtain ⟨hin, hf⟩ := xr_f hf
        refine x_iald hx hb hw (cM4 hE) hin dX12_readParts_73 ?_
        refine lv_topi (fun v14 ex => ?_)
        replace hf := hf v14 ex
        clear ex hin
        obtain ⟨hin, hf⟩ := xs_f hf
        refine x_iast hx hb hw (cM1 hE) hin dX12_readParts_74 (fun σ15 H locs ex hw => ?_)
        replace hf := hf σ15 ex
        clear ex hin
        obtain ⟨v16, ex⟩ : ∃ y : Int32, y = (a3 + 1) := ⟨_, rfl⟩
        replace hf := xl_f hf v16 ex
        refine lv_iinc (v := v16) (lv' := [(3, .int v16), (0, .ref (E.a 0)), (1, .int a1)]) hx hb dX12_readParts_75 hl (k := 2) rfl (by rw [ex]; rfl) (by decide) rfl (fun ls hl => ?_)
        clear ex
        refine lv_goto (tgt := 49) hx hb dX12_readParts_78 (by decide) ?_
        exact ih49 a1 v16 σ15 _ _ _ hw (lv_sub hl [1, 2, 0] rfl) hf
  have h13 : ∀ (a1 : Int32) (t0 : Int32) (σ : xSt) (H : Heap) (locs : List Loc) (ls : Array Slot), xw E A s.heap s σ H locs → lv_has ls 4 [(0, .ref (E.a 0)), (1, .int a1)] → fX12_readParts_c13 a1 t0 σ = some (o1, o2) → W p l e rmX12_readParts s m args below meth c H locs 0 0 (MQ below (xQi E A o1 o2) args s 0 0 A) (F0 m 13 ls [.int t0]) := by
    intro a1 t0 σ H locs ls hw hl hf
    unfold fX12_readParts_c13 at hf
    refine lv_istore_n (lv' := [(2, .int t0), (0, .ref (E.a 0)), (1, .int a1)]) hx hb dX12_readParts_13 rfl hl (by decide) rfl (fun ls hl => ?_)
    refine lv_aload_n hx hb dX12_readParts_14 rfl (lv_at hl 1 rfl) ?_
    refine lv_iconst (v := 0) hx hb dX12_readParts_15 (by decide) ?_
    refine x_puti hx hb hw (cM0 hE) (own := RX12) (ref := RX12) (C := RX12) (T := TX12) (N := 20) hts hiX12 tyX12 tyX12_ok nmX12 hown rfl 6 (by decide) hk248 (fun _ h9 => h9) rfl (by decide +kernel) rfl dX12_readParts_16 (fun σ3 H locs ex hw => ?_)
    replace hf := xp_f hf σ3 ex
    clear ex
    refine lv_aload_n hx hb dX12_readParts_19 rfl (lv_at hl 1 rfl) ?_
    refine lv_aload_n hx hb dX12_readParts_20 rfl (lv_at hl 1 rfl) ?_
    refine lv_iload_n hx hb dX12_readParts_21 rfl (lv_at hl 2 rfl) ?_
    obtain ⟨r4, σ5, hcl, hf⟩ := xc2_f hf
    refine x_calli (va_runV (As := [.int a1]) (rest := [.ref (E.a 0)]) ⟨hx, hb, hml, hown, hts⟩ (mX12_isRecipe hE a1 σ3 r4 σ5 hcl H.size) (cwV 1 hts gX12_readParts_X12_isRecipe rfl rfl rfl (by decide +kernel) ⟨Nat.le_of_ble_eq_true rfl, Nat.le_of_ble_eq_true rfl⟩) (x_preV _ hw hA hG (cM0 hE) rfl) rfl rfl hl.1 rfl (lv_room (Nat.le_of_ble_eq_true rfl)) dX12_readParts_22 ⟨Nat.le_of_ble_eq_true rfl, Nat.le_of_ble_eq_true rfl⟩) hw hA (fun H locs hw => ?_)
    clear hcl
    refine lv_iconst (v := 1) hx hb dX12_readParts_25 (by decide) ?_
    obtain ⟨r6, σ7, hcl, hf⟩ := xc2_f hf
    refine x_calli (va_runV (As := [.int r4, .int 1]) (rest := []) ⟨hx, hb, hml, hown, hts⟩ (mX12_can hE r4 1 σ5 r6 σ7 hcl H.size) (cwV 2 hts gX12_readParts_X12_can rfl rfl rfl (by decide +kernel) ⟨Nat.le_of_ble_eq_true rfl, Nat.le_of_ble_eq_true rfl⟩) (x_preV _ hw hA hG (cM0 hE) rfl) rfl rfl hl.1 rfl (lv_room (Nat.le_of_ble_eq_true rfl)) dX12_readParts_26 ⟨Nat.le_of_ble_eq_true rfl, Nat.le_of_ble_eq_true rfl⟩) hw hA (fun H locs hw => ?_)
    clear hcl
    refine lv_if_eq (tgt := 41) hx hb dX12_readParts_29 (by decide) (fun c29 => ?_) (fun c29 => ?_)
    · replace hf := xif_pos c29 hf
      refine lv_iconst (v := 0) hx hb dX12_readParts_41 (by decide) ?_
      exact x_iret hx hb hr hlk hw hf dX12_readParts_42
    · replace hf := xif_neg c29 hf
      refine lv_aload_n hx hb dX12_readParts_32 rfl (lv_at hl 1 rfl) ?_
      refine lv_iload_n hx hb dX12_readParts_33 rfl (lv_at hl 0 rfl) ?_
      refine lv_iconst (v := 2) hx hb dX12_readParts_34 (by decide) ?_
      obtain ⟨r8, σ9, hcl, hf⟩ := xc2_f hf
      refine x_calli (va_runV (As := [.int t0, .int 2]) (rest := []) ⟨hx, hb, hml, hown, hts⟩ (mX12_can hE t0 2 σ7 r8 σ9 hcl H.size) (cwV 2 hts gX12_readParts_X12_can rfl rfl rfl (by decide +kernel) ⟨Nat.le_of_ble_eq_true rfl, Nat.le_of_ble_eq_true rfl⟩) (x_preV _ hw hA hG (cM0 hE) rfl) rfl rfl hl.1 rfl (lv_room (Nat.le_of_ble_eq_true rfl)) dX12_readParts_35 ⟨Nat.le_of_ble_eq_true rfl, Nat.le_of_ble_eq_true rfl⟩) hw hA (fun H locs hw => ?_)
      clear hcl
      refine lv_if_ne (tgt := 43) hx hb dX12_readParts_38 (by decide) (fun c38 => ?_) (fun c38 => ?_)
      · replace hf := xif_neg c38 hf
        refine lv_aload_n hx hb dX12_readParts_43 rfl (lv_at hl 1 rfl) ?_
        obtain ⟨σ11, hcl, hf⟩ := xc_e hf
        refine x_callv (va_runV (As := []) (rest := []) ⟨hx, hb, hml, hown, hts⟩ (mX12_keep hE σ9 σ11 hcl H.size) (cwV 0 hts gX12_readParts_X12_keep rfl rfl rfl (by decide +kernel) ⟨Nat.le_of_ble_eq_true rfl, Nat.le_of_ble_eq_true rfl⟩) (x_preV _ hw hA hG (cM0 hE) rfl) rfl rfl hl.1 rfl (lv_room (Nat.le_of_ble_eq_true rfl)) dX12_readParts_44 ⟨Nat.le_of_ble_eq_true rfl, Nat.le_of_ble_eq_true rfl⟩) hw hA (fun H locs hw => ?_)
        clear hcl
        refine lv_iconst (v := 0) hx hb dX12_readParts_47 (by decide) ?_
        refine lv_istore_n (lv' := [(3, .int 0), (2, .int t0), (0, .ref (E.a 0)), (1, .int a1)]) hx hb dX12_readParts_48 rfl hl (by decide) rfl (fun ls hl => ?_)
        exact h49 xFU a1 0 σ11 _ _ _ hw (lv_sub hl [2, 3, 0] rfl) hf
      · replace hf := xif_pos c38 hf
        refine lv_iconst (v := 0) hx hb dX12_readParts_41 (by decide) ?_
        exact x_iret hx hb hr hlk hw hf dX12_readParts_42
  refine lv_aload_n hx hb dX12_readParts_0 rfl (lv_at hl 0 rfl) ?_
  obtain ⟨r1, σ2, hcl, hf⟩ := xc2_f hf
  refine x_calli (va_runV (As := []) (rest := []) ⟨hx, hb, hml, hown, hts⟩ (mX12_faultNow hE σ r1 σ2 hcl s.heap.size) (cwV 0 hts gX12_readParts_X12_faultNow rfl rfl rfl (by decide +kernel) ⟨Nat.le_of_ble_eq_true rfl, Nat.le_of_ble_eq_true rfl⟩) (x_preV _ hw hA hG (cM0 hE) rfl) rfl rfl hl.1 rfl (lv_room (Nat.le_of_ble_eq_true rfl)) dX12_readParts_1 ⟨Nat.le_of_ble_eq_true rfl, Nat.le_of_ble_eq_true rfl⟩) hw hA (fun H locs hw => ?_)
  clear hcl
  refine lv_iconst (v := (-1)) hx hb dX12_readParts_4 (by decide) ?_
  refine lv_icmp_ne (tgt := 12) hx hb dX12_readParts_5 (by decide) (fun c5 => ?_) (fun c5 => ?_)
  · replace hf := xif_neg c5 hf
    refine lv_iconst (v := 0) hx hb dX12_readParts_12 (by decide) ?_
    exact h13 p0 0 σ2 _ _ _ hw (lv_sub hl [0, 1] rfl) hf
  · replace hf := xif_pos c5 hf
    refine lv_iconst (v := 1) hx hb dX12_readParts_8 (by decide) ?_
    refine lv_goto (tgt := 13) hx hb dX12_readParts_9 (by decide) ?_
    exact h13 p0 1 σ2 _ _ _ hw (lv_sub hl [0, 1] rfl) hf

def fX12_errors (σ : xSt) : Option (Int32 × xSt) := (xp σ 0 0 0 fun σ1 => some (0, σ1))
abbrev rmX12_errors : Room := { frames := 0, cells := 0, slots := 0, locals := 0 }
set_option maxRecDepth 100000 in
set_option maxHeartbeats 4000000 in
theorem mX12_errors {l : Launch} {E : xE} (hE : E.sh = shM) (σ : xSt) (o1 : Int32) (o2 : xSt) (hf : fX12_errors σ = some (o1, o2)) : xMi l yX12_errors wsX12_errors rmX12_errors E [.ref (E.a 0)] σ o1 o2 := by
  unfold fX12_errors at hf
  refine xMi_of (cc := cX12_errors) (maxL := 1) (ret := (some .int)) (by decide) rfl (Nat.le_of_ble_eq_true rfl) ?_
  intro p e s m args below meth c A ls ⟨hx, hb, hr, hml, hown, hts, hlk⟩ hA hG hw hl
  have hown : s.vm.findClass RX12 = some m.cls := hown
  have hl : lv_has ls 1 [(0, .ref (E.a 0))] := hl
  have hk46 := hts (.fieldLink RX12 46 "OvenRoundModel" "raised" "I") (by decide +kernel)
  have hiX12 : ∀ w ∈ wsX120, w ∈ wsX12_errors := by decide +kernel
  refine lv_aload_n hx hb dX12_errors_0 rfl (lv_at hl 0 rfl) ?_
  refine lv_iconst (v := 0) hx hb dX12_errors_1 (by decide) ?_
  refine x_puti hx hb hw (cM0 hE) (own := RX12) (ref := RX12) (C := RX12) (T := TX12) (N := 20) hts hiX12 tyX12 tyX12_ok nmX12 hown rfl 0 (by decide) hk46 (fun _ h9 => h9) rfl (by decide +kernel) rfl dX12_errors_2 (fun σ1 H locs ex hw => ?_)
  replace hf := xp_f hf σ1 ex
  clear ex
  refine lv_iconst (v := 0) hx hb dX12_errors_5 (by decide) ?_
  exact x_iret hx hb hr hlk hw hf dX12_errors_6
