def fX12_isBetter_c83 (a1 : Int64) (σ : xSt) : Option (Int32 × xSt) := (if 0 ≤ (lg_cmp a1 0) then some (0, σ) else some (1, σ))
def fX12_isBetter_c38 : Nat → Int64 → Int32 → xSt → Option (Int32 × xSt)
  | 0 => fun _ _ _ => none
  | n + 1 => fun a1 a3 σ => (if 4 ≤ a3 then fX12_isBetter_c83 a1 σ else (if (lg_cmp a1 0) = 0 then (xr σ 9 4 a3 fun v6 => (xr σ 10 4 a3 fun v7 => (xl (((Int32.toInt64 v6) * (Int32.toInt64 (σ 0 15))) - ((Int32.toInt64 v7) * (Int32.toInt64 (σ 0 14)))) fun v8 => (xl (a3 + 1) fun v9 => fX12_isBetter_c38 n v8 v9 σ)))) else fX12_isBetter_c83 a1 σ))
theorem fX12_isBetter_c38_s (n : Nat) (a1 : Int64) (a3 : Int32) (σ : xSt) : fX12_isBetter_c38 (n + 1) a1 a3 σ = ((if 4 ≤ a3 then fX12_isBetter_c83 a1 σ else (if (lg_cmp a1 0) = 0 then (xr σ 9 4 a3 fun v6 => (xr σ 10 4 a3 fun v7 => (xl (((Int32.toInt64 v6) * (Int32.toInt64 (σ 0 15))) - ((Int32.toInt64 v7) * (Int32.toInt64 (σ 0 14)))) fun v8 => (xl (a3 + 1) fun v9 => fX12_isBetter_c38 n v8 v9 σ)))) else fX12_isBetter_c83 a1 σ)) : Option (Int32 × xSt)) := rfl
def fX12_isBetter (σ : xSt) : Option (Int32 × xSt) := (if (σ 0 15) = 0 then some (1, σ) else (xc2 (fX12_sumOf 251 σ) fun r1 σ2 => (xc2 (fX12_bestCost σ2) fun r3 σ4 => (xl (((Int32.toInt64 r1) * (Int32.toInt64 (σ2 0 15))) - ((Int32.toInt64 r3) * (Int32.toInt64 (σ4 0 14)))) fun v5 => fX12_isBetter_c38 xFU v5 0 σ4))))
abbrev rmX12_isBetter : Room := { frames := 1, cells := 0, slots := 0, locals := 23 }
set_option maxRecDepth 100000 in
set_option maxHeartbeats 4000000 in
theorem mX12_isBetter {l : Launch} {E : xE} (hE : E.sh = shM) (σ : xSt) (o1 : Int32) (o2 : xSt) (hf : fX12_isBetter σ = some (o1, o2)) : xMi l yX12_isBetter wsX12_isBetter rmX12_isBetter E [.ref (E.a 0)] σ o1 o2 := by
  unfold fX12_isBetter at hf
  refine xMi_of (cc := cX12_isBetter) (maxL := 4) (ret := (some .boolean)) (by decide) rfl (Nat.le_of_ble_eq_true rfl) ?_
  intro p e s m args below meth c A ls ⟨hx, hb, hr, hml, hown, hts, hlk⟩ hA hG hw hl
  have hown : s.vm.findClass RX12 = some m.cls := hown
  have hl : lv_has ls 4 [(0, .ref (E.a 0))] := hl
  have hk154 := hts (.fieldLink RX12 154 "OvenRoundModel" "bestTimes" "I") (by decide +kernel)
  have hiX12 : ∀ w ∈ wsX120, w ∈ wsX12_isBetter := by decide +kernel
  have hk148 := hts (.fieldLink RX12 148 "OvenRoundModel" "times" "I") (by decide +kernel)
  have hk34 := hts (.fieldLink RX12 34 "OvenRoundModel" "share" "[I") (by decide +kernel)
  have hk37 := hts (.fieldLink RX12 37 "OvenRoundModel" "best" "[I") (by decide +kernel)
  have h83 : ∀ (a1 : Int64) (σ : xSt) (H : Heap) (locs : List Loc) (ls : Array Slot), xw E A s.heap s σ H locs → lv_has ls 4 [(1, .long a1)] → fX12_isBetter_c83 a1 σ = some (o1, o2) → W p l e rmX12_isBetter s m args below meth c H locs 0 0 (MQ below (xQi E A o1 o2) args s 0 0 A) (F0 m 83 ls []) := by
    intro a1 σ H locs ls hw hl hf
    unfold fX12_isBetter_c83 at hf
    refine lv_lload_n hx hb dX12_isBetter_83 rfl (lv_at hl 0 rfl) ?_
    refine lv_lconst (v := 0) hx hb dX12_isBetter_84 (by decide) ?_
    refine W.lcmp hx hb dX12_isBetter_85 ?_
    refine lv_if_ge (tgt := 93) hx hb dX12_isBetter_86 (by decide) (fun c86 => ?_) (fun c86 => ?_)
    · replace hf := xif_pos c86 hf
      refine lv_iconst (v := 0) hx hb dX12_isBetter_93 (by decide) ?_
      exact x_zretc hx hb hr hlk hw (by decide) hf dX12_isBetter_94
    · replace hf := xif_neg c86 hf
      refine lv_iconst (v := 1) hx hb dX12_isBetter_89 (by decide) ?_
      refine lv_goto (tgt := 94) hx hb dX12_isBetter_90 (by decide) ?_
      exact x_zretc hx hb hr hlk hw (by decide) hf dX12_isBetter_94
  have h38 : ∀ (n : Nat) (a1 : Int64) (a3 : Int32) (σ : xSt) (H : Heap) (locs : List Loc) (ls : Array Slot), xw E A s.heap s σ H locs → lv_has ls 4 [(0, .ref (E.a 0)), (1, .long a1), (3, .int a3)] → fX12_isBetter_c38 n a1 a3 σ = some (o1, o2) → W p l e rmX12_isBetter s m args below meth c H locs 0 0 (MQ below (xQi E A o1 o2) args s 0 0 A) (F0 m 38 ls []) := by
    intro n38
    induction n38 with
    | zero => intro a1 a3 σ H locs ls hw hl hf; exact nomatch hf
    | succ n38 ih38 =>
      intro a1 a3 σ H locs ls hw hl hf
      rw [fX12_isBetter_c38_s] at hf
      refine lv_iload_n hx hb dX12_isBetter_38 rfl (lv_at hl 2 rfl) ?_
      refine lv_iconst (v := 4) hx hb dX12_isBetter_39 (by decide) ?_
      refine lv_icmp_ge (tgt := 83) hx hb dX12_isBetter_40 (by decide) (fun c40 => ?_) (fun c40 => ?_)
      · replace hf := xif_pos c40 hf
        exact h83 a1 σ _ _ _ hw (lv_sub hl [1] rfl) hf
      · replace hf := xif_neg c40 hf
        refine lv_lload_n hx hb dX12_isBetter_43 rfl (lv_at hl 1 rfl) ?_
        refine lv_lconst (v := 0) hx hb dX12_isBetter_44 (by decide) ?_
        refine W.lcmp hx hb dX12_isBetter_45 ?_
        refine lv_if_ne (tgt := 83) hx hb dX12_isBetter_46 (by decide) (fun c46 => ?_) (fun c46 => ?_)
        · replace hf := xif_neg c46 hf
          exact h83 a1 σ _ _ _ hw (lv_sub hl [1] rfl) hf
        · replace hf := xif_pos c46 hf
          refine lv_aload_n hx hb dX12_isBetter_49 rfl (lv_at hl 0 rfl) ?_
          refine x_getr hx hb hw (cM0 hE) (own := RX12) (ref := RX12) (C := RX12) (T := TX12) (N := 20) hts hiX12 hown rfl 12 (by decide) hk34 (fun _ h9 => h9) rfl dX12_isBetter_50 ?_
          refine lv_iload_n hx hb dX12_isBetter_53 rfl (lv_at hl 2 rfl) ?_
          obtain ⟨hin, hf⟩ := xr_f hf
          refine x_iald hx hb hw (cM9 hE) hin dX12_isBetter_54 ?_
          refine lv_topi (fun v6 ex => ?_)
          replace hf := hf v6 ex
          clear ex hin
          refine lv_i2l hx hb dX12_isBetter_55 rfl ?_
          refine lv_aload_n hx hb dX12_isBetter_56 rfl (lv_at hl 0 rfl) ?_
          refine x_geti hx hb hw (cM0 hE) (own := RX12) (ref := RX12) (C := RX12) (T := TX12) (N := 20) hts hiX12 hown rfl 15 (by decide) hk154 (fun _ h9 => h9) rfl dX12_isBetter_57 ?_
          refine lv_i2l hx hb dX12_isBetter_60 rfl ?_
          refine lv_lmul hx hb dX12_isBetter_61 ?_
          refine lv_aload_n hx hb dX12_isBetter_62 rfl (lv_at hl 0 rfl) ?_
          refine x_getr hx hb hw (cM0 hE) (own := RX12) (ref := RX12) (C := RX12) (T := TX12) (N := 20) hts hiX12 hown rfl 13 (by decide) hk37 (fun _ h9 => h9) rfl dX12_isBetter_63 ?_
          refine lv_iload_n hx hb dX12_isBetter_66 rfl (lv_at hl 2 rfl) ?_
          obtain ⟨hin, hf⟩ := xr_f hf
          refine x_iald hx hb hw (cM10 hE) hin dX12_isBetter_67 ?_
          refine lv_topi (fun v7 ex => ?_)
          replace hf := hf v7 ex
          clear ex hin
          refine lv_i2l hx hb dX12_isBetter_68 rfl ?_
          refine lv_aload_n hx hb dX12_isBetter_69 rfl (lv_at hl 0 rfl) ?_
          refine x_geti hx hb hw (cM0 hE) (own := RX12) (ref := RX12) (C := RX12) (T := TX12) (N := 20) hts hiX12 hown rfl 14 (by decide) hk148 (fun _ h9 => h9) rfl dX12_isBetter_70 ?_
          refine lv_i2l hx hb dX12_isBetter_73 rfl ?_
          refine lv_lmul hx hb dX12_isBetter_74 ?_
          refine lv_lsub hx hb dX12_isBetter_75 ?_
          refine lv_topl (fun v8 ex => ?_)
          replace hf := xl_f hf v8 ex
          clear ex
          refine lv_lstore_n (lv' := [(1, .long v8), (0, .ref (E.a 0)), (3, .int a3)]) hx hb dX12_isBetter_76 rfl hl (by decide) rfl (fun ls hl => ?_)
          obtain ⟨v9, ex⟩ : ∃ y : Int32, y = (a3 + 1) := ⟨_, rfl⟩
          replace hf := xl_f hf v9 ex
          refine lv_iinc (v := v9) (lv' := [(3, .int v9), (1, .long v8), (0, .ref (E.a 0))]) hx hb dX12_isBetter_77 hl (k := 2) rfl (by rw [ex]; rfl) (by decide) rfl (fun ls hl => ?_)
          clear ex
          refine lv_goto (tgt := 38) hx hb dX12_isBetter_80 (by decide) ?_
          exact ih38 v8 v9 σ _ _ _ hw (lv_sub hl [2, 1, 0] rfl) hf
  refine lv_aload_n hx hb dX12_isBetter_0 rfl (lv_at hl 0 rfl) ?_
  refine x_geti hx hb hw (cM0 hE) (own := RX12) (ref := RX12) (C := RX12) (T := TX12) (N := 20) hts hiX12 hown rfl 15 (by decide) hk154 (fun _ h9 => h9) rfl dX12_isBetter_1 ?_
  refine lv_if_ne (tgt := 9) hx hb dX12_isBetter_4 (by decide) (fun c4 => ?_) (fun c4 => ?_)
  · replace hf := xif_neg c4 hf
    refine lv_aload_n hx hb dX12_isBetter_9 rfl (lv_at hl 0 rfl) ?_
    refine lv_sipush (v := 251) hx hb dX12_isBetter_10 (by decide) ?_
    obtain ⟨r1, σ2, hcl, hf⟩ := xc2_f hf
    refine x_calli (va_runV (As := [.int 251]) (rest := []) ⟨hx, hb, hml, hown, hts⟩ (mX12_sumOf hE 251 σ r1 σ2 hcl s.heap.size) (cwV 1 hts gX12_isBetter_X12_sumOf rfl rfl rfl (by decide +kernel) ⟨Nat.le_of_ble_eq_true rfl, Nat.le_of_ble_eq_true rfl⟩) (x_preV _ hw hA hG (cM0 hE) rfl) rfl rfl hl.1 rfl (lv_room (Nat.le_of_ble_eq_true rfl)) dX12_isBetter_13 ⟨Nat.le_of_ble_eq_true rfl, Nat.le_of_ble_eq_true rfl⟩) hw hA (fun H locs hw => ?_)
    clear hcl
    refine lv_i2l hx hb dX12_isBetter_16 rfl ?_
    refine lv_aload_n hx hb dX12_isBetter_17 rfl (lv_at hl 0 rfl) ?_
    refine x_geti hx hb hw (cM0 hE) (own := RX12) (ref := RX12) (C := RX12) (T := TX12) (N := 20) hts hiX12 hown rfl 15 (by decide) hk154 (fun _ h9 => h9) rfl dX12_isBetter_18 ?_
    refine lv_i2l hx hb dX12_isBetter_21 rfl ?_
    refine lv_lmul hx hb dX12_isBetter_22 ?_
    refine lv_aload_n hx hb dX12_isBetter_23 rfl (lv_at hl 0 rfl) ?_
    obtain ⟨r3, σ4, hcl, hf⟩ := xc2_f hf
    refine x_calli (va_runV (As := []) (rest := [.long ((Int32.toInt64 r1) * (Int32.toInt64 (σ2 0 15)))]) ⟨hx, hb, hml, hown, hts⟩ (mX12_bestCost hE σ2 r3 σ4 hcl H.size) (cwV 0 hts gX12_isBetter_X12_bestCost rfl rfl rfl (by decide +kernel) ⟨Nat.le_of_ble_eq_true rfl, Nat.le_of_ble_eq_true rfl⟩) (x_preV _ hw hA hG (cM0 hE) rfl) rfl rfl hl.1 rfl (lv_room (Nat.le_of_ble_eq_true rfl)) dX12_isBetter_24 ⟨Nat.le_of_ble_eq_true rfl, Nat.le_of_ble_eq_true rfl⟩) hw hA (fun H locs hw => ?_)
    clear hcl
    refine lv_i2l hx hb dX12_isBetter_27 rfl ?_
    refine lv_aload_n hx hb dX12_isBetter_28 rfl (lv_at hl 0 rfl) ?_
    refine x_geti hx hb hw (cM0 hE) (own := RX12) (ref := RX12) (C := RX12) (T := TX12) (N := 20) hts hiX12 hown rfl 14 (by decide) hk148 (fun _ h9 => h9) rfl dX12_isBetter_29 ?_
    refine lv_i2l hx hb dX12_isBetter_32 rfl ?_
    refine lv_lmul hx hb dX12_isBetter_33 ?_
    refine lv_lsub hx hb dX12_isBetter_34 ?_
    refine lv_topl (fun v5 ex => ?_)
    replace hf := xl_f hf v5 ex
    clear ex
    refine lv_lstore_n (lv' := [(1, .long v5), (0, .ref (E.a 0))]) hx hb dX12_isBetter_35 rfl hl (by decide) rfl (fun ls hl => ?_)
    refine lv_iconst (v := 0) hx hb dX12_isBetter_36 (by decide) ?_
    refine lv_istore_n (lv' := [(3, .int 0), (1, .long v5), (0, .ref (E.a 0))]) hx hb dX12_isBetter_37 rfl hl (by decide) rfl (fun ls hl => ?_)
    exact h38 xFU v5 0 σ4 _ _ _ hw (lv_sub hl [2, 1, 0] rfl) hf
  · replace hf := xif_pos c4 hf
    refine lv_iconst (v := 1) hx hb dX12_isBetter_7 (by decide) ?_
    exact x_zretc hx hb hr hlk hw (by decide) hf dX12_isBetter_8

def fX12_looksAt_c18 : Nat → Int32 → xSt → Option xSt
  | 0 => fun _ _ => none
  | n + 1 => fun a3 σ => (if 4 ≤ a3 then (xp σ 0 15 (σ 0 14) fun σ5 => some σ5) else (xr σ 9 4 a3 fun v6 => (xs σ 10 4 a3 v6 fun σ7 => (xl (a3 + 1) fun v8 => fX12_looksAt_c18 n v8 σ7))))
theorem fX12_looksAt_c18_s (n : Nat) (a3 : Int32) (σ : xSt) : fX12_looksAt_c18 (n + 1) a3 σ = ((if 4 ≤ a3 then (xp σ 0 15 (σ 0 14) fun σ5 => some σ5) else (xr σ 9 4 a3 fun v6 => (xs σ 10 4 a3 v6 fun σ7 => (xl (a3 + 1) fun v8 => fX12_looksAt_c18 n v8 σ7)))) : Option xSt) := rfl
def fX12_looksAt (p0 : Int32) (p1 : Int32) (σ : xSt) : Option xSt := (xc2 (fX12_isMix p0 p1 σ) fun r1 σ2 => (if r1 = 0 then some σ2 else (xc2 (fX12_isBetter σ2) fun r3 σ4 => (if r3 = 0 then some σ4 else fX12_looksAt_c18 xFU 0 σ4))))
abbrev rmX12_looksAt : Room := { frames := 2, cells := 0, slots := 0, locals := 46 }
set_option maxRecDepth 100000 in
set_option maxHeartbeats 4000000 in
theorem mX12_looksAt {l : Launch} {E : xE} (hE : E.sh = shM) (p0 : Int32) (p1 : Int32) (σ : xSt) (o1 : xSt) (hf : fX12_looksAt p0 p1 σ = some o1) : xMv l yX12_looksAt wsX12_looksAt rmX12_looksAt E [.ref (E.a 0), .int p0, .int p1] σ o1 := by
  unfold fX12_looksAt at hf
  refine xMv_of (cc := cX12_looksAt) (maxL := 4) (ret := none) (by decide) rfl (Nat.le_of_ble_eq_true rfl) ?_
  intro p e s m args below meth c A ls ⟨hx, hb, hr, hml, hown, hts, hlk⟩ hA hG hw hl
  have hown : s.vm.findClass RX12 = some m.cls := hown
  have hl : lv_has ls 4 [(0, .ref (E.a 0)), (1, .int p0), (2, .int p1)] := hl
  have hk148 := hts (.fieldLink RX12 148 "OvenRoundModel" "times" "I") (by decide +kernel)
  have hiX12 : ∀ w ∈ wsX120, w ∈ wsX12_looksAt := by decide +kernel
  have hk154 := hts (.fieldLink RX12 154 "OvenRoundModel" "bestTimes" "I") (by decide +kernel)
  have hk37 := hts (.fieldLink RX12 37 "OvenRoundModel" "best" "[I") (by decide +kernel)
  have hk34 := hts (.fieldLink RX12 34 "OvenRoundModel" "share" "[I") (by decide +kernel)
  have h18 : ∀ (n : Nat) (a3 : Int32) (σ : xSt) (H : Heap) (locs : List Loc) (ls : Array Slot), xw E A s.heap s σ H locs → lv_has ls 4 [(0, .ref (E.a 0)), (3, .int a3)] → fX12_looksAt_c18 n a3 σ = some o1 → W p l e rmX12_looksAt s m args below meth c H locs 0 0 (MQ below (xQv E A o1) args s 0 0 A) (F0 m 18 ls []) := by
    intro n18
    induction n18 with
    | zero => intro a3 σ H locs ls hw hl hf; exact nomatch hf
    | succ n18 ih18 =>
      intro a3 σ H locs ls hw hl hf
      rw [fX12_looksAt_c18_s] at hf
      refine lv_iload_n hx hb dX12_looksAt_18 rfl (lv_at hl 1 rfl) ?_
      refine lv_iconst (v := 4) hx hb dX12_looksAt_19 (by decide) ?_
      refine lv_icmp_ge (tgt := 41) hx hb dX12_looksAt_20 (by decide) (fun c20 => ?_) (fun c20 => ?_)
      · replace hf := xif_pos c20 hf
        refine lv_aload_n hx hb dX12_looksAt_41 rfl (lv_at hl 0 rfl) ?_
        refine lv_aload_n hx hb dX12_looksAt_42 rfl (lv_at hl 0 rfl) ?_
        refine x_geti hx hb hw (cM0 hE) (own := RX12) (ref := RX12) (C := RX12) (T := TX12) (N := 20) hts hiX12 hown rfl 14 (by decide) hk148 (fun _ h9 => h9) rfl dX12_looksAt_43 ?_
        refine x_puti hx hb hw (cM0 hE) (own := RX12) (ref := RX12) (C := RX12) (T := TX12) (N := 20) hts hiX12 tyX12 tyX12_ok nmX12 hown rfl 15 (by decide) hk154 (fun _ h9 => h9) rfl (by decide +kernel) rfl dX12_looksAt_46 (fun σ5 H locs ex hw => ?_)
        replace hf := xp_f hf σ5 ex
        clear ex
        exact x_vret hx hb hr hlk hw hf dX12_looksAt_49
      · replace hf := xif_neg c20 hf
        refine lv_aload_n hx hb dX12_looksAt_23 rfl (lv_at hl 0 rfl) ?_
        refine x_getr hx hb hw (cM0 hE) (own := RX12) (ref := RX12) (C := RX12) (T := TX12) (N := 20) hts hiX12 hown rfl 13 (by decide) hk37 (fun _ h9 => h9) rfl dX12_looksAt_24 ?_
        refine lv_iload_n hx hb dX12_looksAt_27 rfl (lv_at hl 1 rfl) ?_
        refine lv_aload_n hx hb dX12_looksAt_28 rfl (lv_at hl 0 rfl) ?_
        refine x_getr hx hb hw (cM0 hE) (own := RX12) (ref := RX12) (C := RX12) (T := TX12) (N := 20) hts hiX12 hown rfl 12 (by decide) hk34 (fun _ h9 => h9) rfl dX12_looksAt_29 ?_
        refine lv_iload_n hx hb dX12_looksAt_32 rfl (lv_at hl 1 rfl) ?_
        obtain ⟨hin, hf⟩ := xr_f hf
        refine x_iald hx hb hw (cM9 hE) hin dX12_looksAt_33 ?_
        refine lv_topi (fun v6 ex => ?_)
        replace hf := hf v6 ex
        clear ex hin
        obtain ⟨hin, hf⟩ := xs_f hf
        refine x_iast hx hb hw (cM10 hE) hin dX12_looksAt_34 (fun σ7 H locs ex hw => ?_)
        replace hf := hf σ7 ex
        clear ex hin
        obtain ⟨v8, ex⟩ : ∃ y : Int32, y = (a3 + 1) := ⟨_, rfl⟩
        replace hf := xl_f hf v8 ex
        refine lv_iinc (v := v8) (lv' := [(3, .int v8), (0, .ref (E.a 0))]) hx hb dX12_looksAt_35 hl (k := 1) rfl (by rw [ex]; rfl) (by decide) rfl (fun ls hl => ?_)
        clear ex
        refine lv_goto (tgt := 18) hx hb dX12_looksAt_38 (by decide) ?_
        exact ih18 v8 σ7 _ _ _ hw (lv_sub hl [1, 0] rfl) hf
  refine lv_aload_n hx hb dX12_looksAt_0 rfl (lv_at hl 0 rfl) ?_
  refine lv_iload_n hx hb dX12_looksAt_1 rfl (lv_at hl 1 rfl) ?_
  refine lv_iload_n hx hb dX12_looksAt_2 rfl (lv_at hl 2 rfl) ?_
  obtain ⟨r1, σ2, hcl, hf⟩ := xc2_f hf
  refine x_calli (va_runV (As := [.int p0, .int p1]) (rest := []) ⟨hx, hb, hml, hown, hts⟩ (mX12_isMix hE p0 p1 σ r1 σ2 hcl s.heap.size) (cwV 2 hts gX12_looksAt_X12_isMix rfl rfl rfl (by decide +kernel) ⟨Nat.le_of_ble_eq_true rfl, Nat.le_of_ble_eq_true rfl⟩) (x_preV _ hw hA hG (cM0 hE) rfl) rfl rfl hl.1 rfl (lv_room (Nat.le_of_ble_eq_true rfl)) dX12_looksAt_3 ⟨Nat.le_of_ble_eq_true rfl, Nat.le_of_ble_eq_true rfl⟩) hw hA (fun H locs hw => ?_)
  clear hcl
  refine lv_if_eq (tgt := 49) hx hb dX12_looksAt_6 (by decide) (fun c6 => ?_) (fun c6 => ?_)
  · replace hf := xif_pos c6 hf
    exact x_vret hx hb hr hlk hw hf dX12_looksAt_49
  · replace hf := xif_neg c6 hf
    refine lv_aload_n hx hb dX12_looksAt_9 rfl (lv_at hl 0 rfl) ?_
    obtain ⟨r3, σ4, hcl, hf⟩ := xc2_f hf
    refine x_calli (va_runV (As := []) (rest := []) ⟨hx, hb, hml, hown, hts⟩ (mX12_isBetter hE σ2 r3 σ4 hcl H.size) (cwV 0 hts gX12_looksAt_X12_isBetter rfl rfl rfl (by decide +kernel) ⟨Nat.le_of_ble_eq_true rfl, Nat.le_of_ble_eq_true rfl⟩) (x_preV _ hw hA hG (cM0 hE) rfl) rfl rfl hl.1 rfl (lv_room (Nat.le_of_ble_eq_true rfl)) dX12_looksAt_10 ⟨Nat.le_of_ble_eq_true rfl, Nat.le_of_ble_eq_true rfl⟩) hw hA (fun H locs hw => ?_)
    clear hcl
    refine lv_if_eq (tgt := 49) hx hb dX12_looksAt_13 (by decide) (fun c13 => ?_) (fun c13 => ?_)
    · replace hf := xif_pos c13 hf
      exact x_vret hx hb hr hlk hw hf dX12_looksAt_49
    · replace hf := xif_neg c13 hf
      refine lv_iconst (v := 0) hx hb dX12_looksAt_16 (by decide) ?_
      refine lv_istore_n (lv' := [(3, .int 0), (0, .ref (E.a 0)), (1, .int p0), (2, .int p1)]) hx hb dX12_looksAt_17 rfl hl (by decide) rfl (fun ls hl => ?_)
      exact h18 xFU 0 σ4 _ _ _ hw (lv_sub hl [1, 0] rfl) hf

def fX12_how_c4 : Nat → Int32 → Int32 → Int32 → xSt → Option (Int32 × xSt)
  | 0 => fun _ _ _ _ => none
  | n + 1 => fun a1 a2 a3 σ => (if a1 ≤ a3 then some ((a2 - a2 / 3 * 3), σ) else (xl (a2 / 3) fun v1 => (xl (a3 + 1) fun v2 => fX12_how_c4 n a1 v1 v2 σ)))
theorem fX12_how_c4_s (n : Nat) (a1 : Int32) (a2 : Int32) (a3 : Int32) (σ : xSt) : fX12_how_c4 (n + 1) a1 a2 a3 σ = ((if a1 ≤ a3 then some ((a2 - a2 / 3 * 3), σ) else (xl (a2 / 3) fun v1 => (xl (a3 + 1) fun v2 => fX12_how_c4 n a1 v1 v2 σ))) : Option (Int32 × xSt)) := rfl
def fX12_how (p0 : Int32) (p1 : Int32) (σ : xSt) : Option (Int32 × xSt) := fX12_how_c4 xFU p1 p0 0 σ
abbrev rmX12_how : Room := { frames := 0, cells := 0, slots := 0, locals := 0 }
set_option maxRecDepth 100000 in
set_option maxHeartbeats 4000000 in
theorem mX12_how {l : Launch} {E : xE} (hE : E.sh = shM) (p0 : Int32) (p1 : Int32) (σ : xSt) (o1 : Int32) (o2 : xSt) (hf : fX12_how p0 p1 σ = some (o1, o2)) : xMi l yX12_how wsX12_how rmX12_how E [.int p0, .int p1] σ o1 o2 := by
  unfold fX12_how at hf
  refine xMi_of (cc := cX12_how) (maxL := 4) (ret := (some .int)) (by decide) rfl (Nat.le_of_ble_eq_true rfl) ?_
  intro p e s m args below meth c A ls ⟨hx, hb, hr, hml, hown, hts, hlk⟩ hA hG hw hl
  have hown : s.vm.findClass RX12 = some m.cls := hown
  have hl : lv_has ls 4 [(0, .int p0), (1, .int p1)] := hl
  have h4 : ∀ (n : Nat) (a1 : Int32) (a2 : Int32) (a3 : Int32) (σ : xSt) (H : Heap) (locs : List Loc) (ls : Array Slot), xw E A s.heap s σ H locs → lv_has ls 4 [(1, .int a1), (2, .int a2), (3, .int a3)] → fX12_how_c4 n a1 a2 a3 σ = some (o1, o2) → W p l e rmX12_how s m args below meth c H locs 0 0 (MQ below (xQi E A o1 o2) args s 0 0 A) (F0 m 4 ls []) := by
    intro n4
    induction n4 with
    | zero => intro a1 a2 a3 σ H locs ls hw hl hf; exact nomatch hf
    | succ n4 ih4 =>
      intro a1 a2 a3 σ H locs ls hw hl hf
      rw [fX12_how_c4_s] at hf
      refine lv_iload_n hx hb dX12_how_4 rfl (lv_at hl 2 rfl) ?_
      refine lv_iload_n hx hb dX12_how_5 rfl (lv_at hl 0 rfl) ?_
      refine lv_icmp_ge (tgt := 19) hx hb dX12_how_6 (by decide) (fun c6 => ?_) (fun c6 => ?_)
      · replace hf := xif_pos c6 hf
        refine lv_iload_n hx hb dX12_how_19 rfl (lv_at hl 1 rfl) ?_
        refine lv_iconst (v := 3) hx hb dX12_how_20 (by decide) ?_
        refine lv_irem hx hb dX12_how_21 (by decide) ?_
        exact x_iret hx hb hr hlk hw hf dX12_how_22
      · replace hf := xif_neg c6 hf
        refine lv_iload_n hx hb dX12_how_9 rfl (lv_at hl 1 rfl) ?_
        refine lv_iconst (v := 3) hx hb dX12_how_10 (by decide) ?_
        refine lv_idiv hx hb dX12_how_11 (by decide) ?_
        refine lv_topi (fun v1 ex => ?_)
        replace hf := xl_f hf v1 ex
        clear ex
        refine lv_istore_n (lv' := [(2, .int v1), (1, .int a1), (3, .int a3)]) hx hb dX12_how_12 rfl hl (by decide) rfl (fun ls hl => ?_)
        obtain ⟨v2, ex⟩ : ∃ y : Int32, y = (a3 + 1) := ⟨_, rfl⟩
        replace hf := xl_f hf v2 ex
        refine lv_iinc (v := v2) (lv' := [(3, .int v2), (2, .int v1), (1, .int a1)]) hx hb dX12_how_13 hl (k := 2) rfl (by rw [ex]; rfl) (by decide) rfl (fun ls hl => ?_)
        clear ex
        refine lv_goto (tgt := 4) hx hb dX12_how_16 (by decide) ?_
        exact ih4 a1 v1 v2 σ _ _ _ hw (lv_sub hl [2, 1, 0] rfl) hf
  refine lv_iload_n hx hb dX12_how_0 rfl (lv_at hl 0 rfl) ?_
  refine lv_istore_n (lv' := [(2, .int p0), (0, .int p0), (1, .int p1)]) hx hb dX12_how_1 rfl hl (by decide) rfl (fun ls hl => ?_)
  refine lv_iconst (v := 0) hx hb dX12_how_2 (by decide) ?_
  refine lv_istore_n (lv' := [(3, .int 0), (2, .int p0), (0, .int p0), (1, .int p1)]) hx hb dX12_how_3 rfl hl (by decide) rfl (fun ls hl => ?_)
  exact h4 xFU p1 p0 0 σ _ _ _ hw (lv_sub hl [3, 1, 0] rfl) hf

def fX12_freeIn_c2 : Nat → Int32 → Int32 → xSt → Option (Int32 × xSt)
  | 0 => fun _ _ _ => none
  | n + 1 => fun a0 a2 σ => (if 4 ≤ a2 then some ((-1), σ) else (xc2 (fX12_how a0 a2 σ) fun r1 σ2 => (if r1 = 2 then some (a2, σ2) else (xl (a2 + 1) fun v3 => fX12_freeIn_c2 n a0 v3 σ2))))
theorem fX12_freeIn_c2_s (n : Nat) (a0 : Int32) (a2 : Int32) (σ : xSt) : fX12_freeIn_c2 (n + 1) a0 a2 σ = ((if 4 ≤ a2 then some ((-1), σ) else (xc2 (fX12_how a0 a2 σ) fun r1 σ2 => (if r1 = 2 then some (a2, σ2) else (xl (a2 + 1) fun v3 => fX12_freeIn_c2 n a0 v3 σ2)))) : Option (Int32 × xSt)) := rfl
def fX12_freeIn (p0 : Int32) (p1 : Int32) (σ : xSt) : Option (Int32 × xSt) := fX12_freeIn_c2 xFU p0 p1 σ
abbrev rmX12_freeIn : Room := { frames := 1, cells := 0, slots := 0, locals := 23 }
set_option maxRecDepth 100000 in
set_option maxHeartbeats 4000000 in
theorem mX12_freeIn {l : Launch} {E : xE} (hE : E.sh = shM) (p0 : Int32) (p1 : Int32) (σ : xSt) (o1 : Int32) (o2 : xSt) (hf : fX12_freeIn p0 p1 σ = some (o1, o2)) : xMi l yX12_freeIn wsX12_freeIn rmX12_freeIn E [.int p0, .int p1] σ o1 o2 := by
  unfold fX12_freeIn at hf
  refine xMi_of (cc := cX12_freeIn) (maxL := 3) (ret := (some .int)) (by decide) rfl (Nat.le_of_ble_eq_true rfl) ?_
  intro p e s m args below meth c A ls ⟨hx, hb, hr, hml, hown, hts, hlk⟩ hA hG hw hl
  have hown : s.vm.findClass RX12 = some m.cls := hown
  have hl : lv_has ls 3 [(0, .int p0), (1, .int p1)] := hl
  have h2 : ∀ (n : Nat) (a0 : Int32) (a2 : Int32) (σ : xSt) (H : Heap) (locs : List Loc) (ls : Array Slot), xw E A s.heap s σ H locs → lv_has ls 3 [(0, .int a0), (2, .int a2)] → fX12_freeIn_c2 n a0 a2 σ = some (o1, o2) → W p l e rmX12_freeIn s m args below meth c H locs 0 0 (MQ below (xQi E A o1 o2) args s 0 0 A) (F0 m 2 ls []) := by
    intro n2
    induction n2 with
    | zero => intro a0 a2 σ H locs ls hw hl hf; exact nomatch hf
    | succ n2 ih2 =>
      intro a0 a2 σ H locs ls hw hl hf
      rw [fX12_freeIn_c2_s] at hf
      refine lv_iload_n hx hb dX12_freeIn_2 rfl (lv_at hl 1 rfl) ?_
      refine lv_iconst (v := 4) hx hb dX12_freeIn_3 (by decide) ?_
      refine lv_icmp_ge (tgt := 24) hx hb dX12_freeIn_4 (by decide) (fun c4 => ?_) (fun c4 => ?_)
      · replace hf := xif_pos c4 hf
        refine lv_iconst (v := (-1)) hx hb dX12_freeIn_24 (by decide) ?_
        exact x_iret hx hb hr hlk hw hf dX12_freeIn_25
      · replace hf := xif_neg c4 hf
        refine lv_iload_n hx hb dX12_freeIn_7 rfl (lv_at hl 0 rfl) ?_
        refine lv_iload_n hx hb dX12_freeIn_8 rfl (lv_at hl 1 rfl) ?_
        obtain ⟨r1, σ2, hcl, hf⟩ := xc2_f hf
        refine x_calli (va_runS (As := [.int a0, .int a2]) (rest := []) ⟨hx, hb, hml, hown, hts⟩ (mX12_how hE a0 a2 σ r1 σ2 hcl H.size) (va_cwS 2 hts gX12_freeIn_X12_how rfl rfl rfl (by decide +kernel) ⟨Nat.le_of_ble_eq_true rfl, Nat.le_of_ble_eq_true rfl⟩) (x_preS _ hw hA hG) rfl rfl hl.1 rfl (lv_room (Nat.le_of_ble_eq_true rfl)) dX12_freeIn_9 ⟨Nat.le_of_ble_eq_true rfl, Nat.le_of_ble_eq_true rfl⟩) hw hA (fun H locs hw => ?_)
        clear hcl
        refine lv_iconst (v := 2) hx hb dX12_freeIn_12 (by decide) ?_
        refine lv_icmp_ne (tgt := 18) hx hb dX12_freeIn_13 (by decide) (fun c13 => ?_) (fun c13 => ?_)
        · replace hf := xif_neg c13 hf
          obtain ⟨v3, ex⟩ : ∃ y : Int32, y = (a2 + 1) := ⟨_, rfl⟩
          replace hf := xl_f hf v3 ex
          refine lv_iinc (v := v3) (lv' := [(2, .int v3), (0, .int a0)]) hx hb dX12_freeIn_18 hl (k := 1) rfl (by rw [ex]; rfl) (by decide) rfl (fun ls hl => ?_)
          clear ex
          refine lv_goto (tgt := 2) hx hb dX12_freeIn_21 (by decide) ?_
          exact ih2 a0 v3 σ2 _ _ _ hw (lv_sub hl [1, 0] rfl) hf
        · replace hf := xif_pos c13 hf
          refine lv_iload_n hx hb dX12_freeIn_16 rfl (lv_at hl 1 rfl) ?_
          exact x_iret hx hb hr hlk hw hf dX12_freeIn_17
  refine lv_iload_n hx hb dX12_freeIn_0 rfl (lv_at hl 1 rfl) ?_
  refine lv_istore_n (lv' := [(2, .int p1), (0, .int p0), (1, .int p1)]) hx hb dX12_freeIn_1 rfl hl (by decide) rfl (fun ls hl => ?_)
  exact h2 xFU p0 p1 σ _ _ _ hw (lv_sub hl [1, 0] rfl) hf

def fX12_fixes_c7 : Nat → Int32 → Int32 → Int32 → xSt → Option xSt
  | 0 => fun _ _ _ _ => none
  | n + 1 => fun a1 a2 a3 σ => (if 4 ≤ a3 then some σ else (xc2 (fX12_how a1 a3 σ) fun r2 σ3 => (if r2 = 1 then (xr σ3 1 680 (255 + a3) fun v6 => (xs σ3 9 4 a3 (v6 * a2) fun σ7 => (xl (a3 + 1) fun v8 => fX12_fixes_c7 n a1 a2 v8 σ7))) else (xs σ3 9 4 a3 0 fun σ4 => (xl (a3 + 1) fun v5 => fX12_fixes_c7 n a1 a2 v5 σ4)))))
theorem fX12_fixes_c7_s (n : Nat) (a1 : Int32) (a2 : Int32) (a3 : Int32) (σ : xSt) : fX12_fixes_c7 (n + 1) a1 a2 a3 σ = ((if 4 ≤ a3 then some σ else (xc2 (fX12_how a1 a3 σ) fun r2 σ3 => (if r2 = 1 then (xr σ3 1 680 (255 + a3) fun v6 => (xs σ3 9 4 a3 (v6 * a2) fun σ7 => (xl (a3 + 1) fun v8 => fX12_fixes_c7 n a1 a2 v8 σ7))) else (xs σ3 9 4 a3 0 fun σ4 => (xl (a3 + 1) fun v5 => fX12_fixes_c7 n a1 a2 v5 σ4))))) : Option xSt) := rfl
def fX12_fixes (p0 : Int32) (p1 : Int32) (σ : xSt) : Option xSt := (xp σ 0 14 p1 fun σ1 => fX12_fixes_c7 xFU p0 p1 0 σ1)
abbrev rmX12_fixes : Room := { frames := 1, cells := 0, slots := 0, locals := 23 }
set_option maxRecDepth 100000 in
set_option maxHeartbeats 4000000 in
theorem mX12_fixes {l : Launch} {E : xE} (hE : E.sh = shM) (p0 : Int32) (p1 : Int32) (σ : xSt) (o1 : xSt) (hf : fX12_fixes p0 p1 σ = some o1) : xMv l yX12_fixes wsX12_fixes rmX12_fixes E [.ref (E.a 0), .int p0, .int p1] σ o1 := by
  unfold fX12_fixes at hf
  refine xMv_of (cc := cX12_fixes) (maxL := 4) (ret := none) (by decide) rfl (Nat.le_of_ble_eq_true rfl) ?_
  intro p e s m args below meth c A ls ⟨hx, hb, hr, hml, hown, hts, hlk⟩ hA hG hw hl
  have hown : s.vm.findClass RX12 = some m.cls := hown
  have hl : lv_has ls 4 [(0, .ref (E.a 0)), (1, .int p0), (2, .int p1)] := hl
  have hk148 := hts (.fieldLink RX12 148 "OvenRoundModel" "times" "I") (by decide +kernel)
  have hiX12 : ∀ w ∈ wsX120, w ∈ wsX12_fixes := by decide +kernel
  have hk34 := hts (.fieldLink RX12 34 "OvenRoundModel" "share" "[I") (by decide +kernel)
  have hk9 := hts (.fieldLink RX12 9 "OvenRoundModel" "w" "[I") (by decide +kernel)
  have h7 : ∀ (n : Nat) (a1 : Int32) (a2 : Int32) (a3 : Int32) (σ : xSt) (H : Heap) (locs : List Loc) (ls : Array Slot), xw E A s.heap s σ H locs → lv_has ls 4 [(0, .ref (E.a 0)), (1, .int a1), (2, .int a2), (3, .int a3)] → fX12_fixes_c7 n a1 a2 a3 σ = some o1 → W p l e rmX12_fixes s m args below meth c H locs 0 0 (MQ below (xQv E A o1) args s 0 0 A) (F0 m 7 ls []) := by
    intro n7
    induction n7 with
    | zero => intro a1 a2 a3 σ H locs ls hw hl hf; exact nomatch hf
    | succ n7 ih7 =>
      intro a1 a2 a3 σ H locs ls hw hl hf
      rw [fX12_fixes_c7_s] at hf
      refine lv_iload_n hx hb dX12_fixes_7 rfl (lv_at hl 3 rfl) ?_
      refine lv_iconst (v := 4) hx hb dX12_fixes_8 (by decide) ?_
      refine lv_icmp_ge (tgt := 49) hx hb dX12_fixes_9 (by decide) (fun c9 => ?_) (fun c9 => ?_)
      · replace hf := xif_pos c9 hf
        exact x_vret hx hb hr hlk hw hf dX12_fixes_49
      · replace hf := xif_neg c9 hf
        refine lv_aload_n hx hb dX12_fixes_12 rfl (lv_at hl 0 rfl) ?_
        refine x_getr hx hb hw (cM0 hE) (own := RX12) (ref := RX12) (C := RX12) (T := TX12) (N := 20) hts hiX12 hown rfl 12 (by decide) hk34 (fun _ h9 => h9) rfl dX12_fixes_13 ?_
        refine lv_iload_n hx hb dX12_fixes_16 rfl (lv_at hl 3 rfl) ?_
        refine lv_iload_n hx hb dX12_fixes_17 rfl (lv_at hl 1 rfl) ?_
        refine lv_iload_n hx hb dX12_fixes_18 rfl (lv_at hl 3 rfl) ?_
        obtain ⟨r2, σ3, hcl, hf⟩ := xc2_f hf
        refine x_calli (va_runS (As := [.int a1, .int a3]) (rest := [.int a3, .ref (E.a 9)]) ⟨hx, hb, hml, hown, hts⟩ (mX12_how hE a1 a3 σ r2 σ3 hcl H.size) (va_cwS 2 hts gX12_fixes_X12_how rfl rfl rfl (by decide +kernel) ⟨Nat.le_of_ble_eq_true rfl, Nat.le_of_ble_eq_true rfl⟩) (x_preS _ hw hA hG) rfl rfl hl.1 rfl (lv_room (Nat.le_of_ble_eq_true rfl)) dX12_fixes_19 ⟨Nat.le_of_ble_eq_true rfl, Nat.le_of_ble_eq_true rfl⟩) hw hA (fun H locs hw => ?_)
        clear hcl
        refine lv_iconst (v := 1) hx hb dX12_fixes_22 (by decide) ?_
        refine lv_icmp_ne (tgt := 41) hx hb dX12_fixes_23 (by decide) (fun c23 => ?_) (fun c23 => ?_)
        · replace hf := xif_neg c23 hf
          refine lv_iconst (v := 0) hx hb dX12_fixes_41 (by decide) ?_
          obtain ⟨hin, hf⟩ := xs_f hf
          refine x_iast hx hb hw (cM9 hE) hin dX12_fixes_42 (fun σ4 H locs ex hw => ?_)
          replace hf := hf σ4 ex
          clear ex hin
          obtain ⟨v5, ex⟩ : ∃ y : Int32, y = (a3 + 1) := ⟨_, rfl⟩
          replace hf := xl_f hf v5 ex
          refine lv_iinc (v := v5) (lv' := [(3, .int v5), (0, .ref (E.a 0)), (1, .int a1), (2, .int a2)]) hx hb dX12_fixes_43 hl (k := 3) rfl (by rw [ex]; rfl) (by decide) rfl (fun ls hl => ?_)
          clear ex
          refine lv_goto (tgt := 7) hx hb dX12_fixes_46 (by decide) ?_
          exact ih7 a1 a2 v5 σ4 _ _ _ hw (lv_sub hl [1, 2, 3, 0] rfl) hf
        · replace hf := xif_pos c23 hf
          refine lv_aload_n hx hb dX12_fixes_26 rfl (lv_at hl 0 rfl) ?_
          refine x_getr hx hb hw (cM0 hE) (own := RX12) (ref := RX12) (C := RX12) (T := TX12) (N := 20) hts hiX12 hown rfl 1 (by decide) hk9 (fun _ h9 => h9) rfl dX12_fixes_27 ?_
          refine lv_sipush (v := 255) hx hb dX12_fixes_30 (by decide) ?_
          refine lv_iload_n hx hb dX12_fixes_33 rfl (lv_at hl 3 rfl) ?_
          refine lv_iadd hx hb dX12_fixes_34 ?_
          obtain ⟨hin, hf⟩ := xr_f hf
          refine x_iald hx hb hw (cM1 hE) hin dX12_fixes_35 ?_
          refine lv_topi (fun v6 ex => ?_)
          replace hf := hf v6 ex
          clear ex hin
          refine lv_iload_n hx hb dX12_fixes_36 rfl (lv_at hl 2 rfl) ?_
          refine lv_imul hx hb dX12_fixes_37 ?_
          refine lv_goto (tgt := 42) hx hb dX12_fixes_38 (by decide) ?_
          obtain ⟨hin, hf⟩ := xs_f hf
          refine x_iast hx hb hw (cM9 hE) hin dX12_fixes_42 (fun σ7 H locs ex hw => ?_)
          replace hf := hf σ7 ex
          clear ex hin
          obtain ⟨v8, ex⟩ : ∃ y : Int32, y = (a3 + 1) := ⟨_, rfl⟩
          replace hf := xl_f hf v8 ex
          refine lv_iinc (v := v8) (lv' := [(3, .int v8), (0, .ref (E.a 0)), (1, .int a1), (2, .int a2)]) hx hb dX12_fixes_43 hl (k := 3) rfl (by rw [ex]; rfl) (by decide) rfl (fun ls hl => ?_)
          clear ex
          refine lv_goto (tgt := 7) hx hb dX12_fixes_46 (by decide) ?_
          exact ih7 a1 a2 v8 σ7 _ _ _ hw (lv_sub hl [1, 2, 3, 0] rfl) hf
  refine lv_aload_n hx hb dX12_fixes_0 rfl (lv_at hl 0 rfl) ?_
  refine lv_iload_n hx hb dX12_fixes_1 rfl (lv_at hl 2 rfl) ?_
  refine x_puti hx hb hw (cM0 hE) (own := RX12) (ref := RX12) (C := RX12) (T := TX12) (N := 20) hts hiX12 tyX12 tyX12_ok nmX12 hown rfl 14 (by decide) hk148 (fun _ h9 => h9) rfl (by decide +kernel) rfl dX12_fixes_2 (fun σ1 H locs ex hw => ?_)
  replace hf := xp_f hf σ1 ex
  clear ex
  refine lv_iconst (v := 0) hx hb dX12_fixes_5 (by decide) ?_
  refine lv_istore_n (lv' := [(3, .int 0), (0, .ref (E.a 0)), (1, .int p0), (2, .int p1)]) hx hb dX12_fixes_6 rfl hl (by decide) rfl (fun ls hl => ?_)
  exact h7 xFU p0 p1 0 σ1 _ _ _ hw (lv_sub hl [1, 2, 3, 0] rfl) hf

def fX12_ties_c84 (a1 : Int32) (a2 : Int32) (a3 : Int32) (a5 : Int32) (a6 : Int32) (a7 : Int32) (a8 : Int32) (a9 : Int32) (t0 : Int32) (σ : xSt) : Option xSt := (xc (fX12_fixes a1 (a7 * t0) σ) fun σ14 => (xs σ14 9 4 a2 (a9 * t0) fun σ15 => (xr σ15 9 4 a2 fun v16 => (xs σ15 9 4 a3 ((a8 * (σ15 0 14)) - v16) fun σ17 => (xc (fX12_looksAt a5 a6 σ17) fun σ19 => some σ19)))))
def fX12_ties (p0 : Int32) (p1 : Int32) (p2 : Int32) (p3 : Int32) (p4 : Int32) (p5 : Int32) (σ : xSt) : Option xSt := (xr σ 1 680 (247 + p1) fun v1 => (xr σ 1 680 (247 + p2) fun v2 => (xl (v1 - v2) fun v3 => (if v3 = 0 then some σ else (xc (fX12_fixes p0 1 σ) fun σ5 => (xc2 (fX12_sumOf (-1) σ5) fun r6 σ7 => (xl (100 - r6) fun v8 => (xc2 (fX12_sumOf 247 σ7) fun r9 σ10 => (xr σ10 1 680 (247 + p2) fun v11 => (xl (((100 * p3) - r9) - (v11 * v8)) fun v12 => (if v3 ≤ 0 then fX12_ties_c84 p0 p1 p2 p4 p5 v3 v8 v12 (-1) σ10 else fX12_ties_c84 p0 p1 p2 p4 p5 v3 v8 v12 1 σ10)))))))))))
abbrev rmX12_ties : Room := { frames := 3, cells := 0, slots := 0, locals := 69 }
set_option maxRecDepth 100000 in
set_option maxHeartbeats 4000000 in
theorem mX12_ties {l : Launch} {E : xE} (hE : E.sh = shM) (p0 : Int32) (p1 : Int32) (p2 : Int32) (p3 : Int32) (p4 : Int32) (p5 : Int32) (σ : xSt) (o1 : xSt) (hf : fX12_ties p0 p1 p2 p3 p4 p5 σ = some o1) : xMv l yX12_ties wsX12_ties rmX12_ties E [.ref (E.a 0), .int p0, .int p1, .int p2, .int p3, .int p4, .int p5] σ o1 := by
  unfold fX12_ties at hf
  refine xMv_of (cc := cX12_ties) (maxL := 11) (ret := none) (by decide) rfl (Nat.le_of_ble_eq_true rfl) ?_
  intro p e s m args below meth c A ls ⟨hx, hb, hr, hml, hown, hts, hlk⟩ hA hG hw hl
  have hown : s.vm.findClass RX12 = some m.cls := hown
  have hl : lv_has ls 11 [(0, .ref (E.a 0)), (1, .int p0), (2, .int p1), (3, .int p2), (4, .int p3), (5, .int p4), (6, .int p5)] := hl
  have hk9 := hts (.fieldLink RX12 9 "OvenRoundModel" "w" "[I") (by decide +kernel)
  have hiX12 : ∀ w ∈ wsX120, w ∈ wsX12_ties := by decide +kernel
  have hk34 := hts (.fieldLink RX12 34 "OvenRoundModel" "share" "[I") (by decide +kernel)
  have hk148 := hts (.fieldLink RX12 148 "OvenRoundModel" "times" "I") (by decide +kernel)
  have h84 : ∀ (a1 : Int32) (a2 : Int32) (a3 : Int32) (a5 : Int32) (a6 : Int32) (a7 : Int32) (a8 : Int32) (a9 : Int32) (t0 : Int32) (σ : xSt) (H : Heap) (locs : List Loc) (ls : Array Slot), xw E A s.heap s σ H locs → lv_has ls 11 [(0, .ref (E.a 0)), (1, .int a1), (2, .int a2), (3, .int a3), (5, .int a5), (6, .int a6), (7, .int a7), (8, .int a8), (9, .int a9)] → fX12_ties_c84 a1 a2 a3 a5 a6 a7 a8 a9 t0 σ = some o1 → W p l e rmX12_ties s m args below meth c H locs 0 0 (MQ below (xQv E A o1) args s 0 0 A) (F0 m 84 ls [.int t0]) := by
    intro a1 a2 a3 a5 a6 a7 a8 a9 t0 σ H locs ls hw hl hf
    unfold fX12_ties_c84 at hf
    refine lv_istore (lv' := [(10, .int t0), (0, .ref (E.a 0)), (1, .int a1), (2, .int a2), (3, .int a3), (5, .int a5), (6, .int a6), (7, .int a7), (8, .int a8), (9, .int a9)]) hx hb dX12_ties_84 hl (by decide) rfl (fun ls hl => ?_)
    refine lv_aload_n hx hb dX12_ties_86 rfl (lv_at hl 1 rfl) ?_
    refine lv_iload_n hx hb dX12_ties_87 rfl (lv_at hl 2 rfl) ?_
    refine lv_iload hx hb dX12_ties_88 (lv_at hl 7 rfl) ?_
    refine lv_iload hx hb dX12_ties_90 (lv_at hl 0 rfl) ?_
    refine lv_imul hx hb dX12_ties_92 ?_
    obtain ⟨σ14, hcl, hf⟩ := xc_e hf
    refine x_callv (va_runV (As := [.int a1, .int (a7 * t0)]) (rest := []) ⟨hx, hb, hml, hown, hts⟩ (mX12_fixes hE a1 (a7 * t0) σ σ14 hcl H.size) (cwV 2 hts gX12_ties_X12_fixes rfl rfl rfl (by decide +kernel) ⟨Nat.le_of_ble_eq_true rfl, Nat.le_of_ble_eq_true rfl⟩) (x_preV _ hw hA hG (cM0 hE) rfl) rfl rfl hl.1 rfl (lv_room (Nat.le_of_ble_eq_true rfl)) dX12_ties_93 ⟨Nat.le_of_ble_eq_true rfl, Nat.le_of_ble_eq_true rfl⟩) hw hA (fun H locs hw => ?_)
    clear hcl
    refine lv_aload_n hx hb dX12_ties_96 rfl (lv_at hl 1 rfl) ?_
    refine x_getr hx hb hw (cM0 hE) (own := RX12) (ref := RX12) (C := RX12) (T := TX12) (N := 20) hts hiX12 hown rfl 12 (by decide) hk34 (fun _ h9 => h9) rfl dX12_ties_97 ?_
    refine lv_iload_n hx hb dX12_ties_100 rfl (lv_at hl 3 rfl) ?_
    refine lv_iload hx hb dX12_ties_101 (lv_at hl 9 rfl) ?_
    refine lv_iload hx hb dX12_ties_103 (lv_at hl 0 rfl) ?_
    refine lv_imul hx hb dX12_ties_105 ?_
    obtain ⟨hin, hf⟩ := xs_f hf
    refine x_iast hx hb hw (cM9 hE) hin dX12_ties_106 (fun σ15 H locs ex hw => ?_)
    replace hf := hf σ15 ex
    clear ex hin
    refine lv_aload_n hx hb dX12_ties_107 rfl (lv_at hl 1 rfl) ?_
    refine x_getr hx hb hw (cM0 hE) (own := RX12) (ref := RX12) (C := RX12) (T := TX12) (N := 20) hts hiX12 hown rfl 12 (by decide) hk34 (fun _ h9 => h9) rfl dX12_ties_108 ?_
    refine lv_iload_n hx hb dX12_ties_111 rfl (lv_at hl 4 rfl) ?_
    refine lv_iload hx hb dX12_ties_112 (lv_at hl 8 rfl) ?_
    refine lv_aload_n hx hb dX12_ties_114 rfl (lv_at hl 1 rfl) ?_
    refine x_geti hx hb hw (cM0 hE) (own := RX12) (ref := RX12) (C := RX12) (T := TX12) (N := 20) hts hiX12 hown rfl 14 (by decide) hk148 (fun _ h9 => h9) rfl dX12_ties_115 ?_
    refine lv_imul hx hb dX12_ties_118 ?_
    refine lv_aload_n hx hb dX12_ties_119 rfl (lv_at hl 1 rfl) ?_
    refine x_getr hx hb hw (cM0 hE) (own := RX12) (ref := RX12) (C := RX12) (T := TX12) (N := 20) hts hiX12 hown rfl 12 (by decide) hk34 (fun _ h9 => h9) rfl dX12_ties_120 ?_
    refine lv_iload_n hx hb dX12_ties_123 rfl (lv_at hl 3 rfl) ?_
    obtain ⟨hin, hf⟩ := xr_f hf
    refine x_iald hx hb hw (cM9 hE) hin dX12_ties_124 ?_
    refine lv_topi (fun v16 ex => ?_)
    replace hf := hf v16 ex
    clear ex hin
    refine lv_isub hx hb dX12_ties_125 ?_
    obtain ⟨hin, hf⟩ := xs_f hf
    refine x_iast hx hb hw (cM9 hE) hin dX12_ties_126 (fun σ17 H locs ex hw => ?_)
    replace hf := hf σ17 ex
    clear ex hin
    refine lv_aload_n hx hb dX12_ties_127 rfl (lv_at hl 1 rfl) ?_
    refine lv_iload hx hb dX12_ties_128 (lv_at hl 5 rfl) ?_
    refine lv_iload hx hb dX12_ties_130 (lv_at hl 6 rfl) ?_
    obtain ⟨σ19, hcl, hf⟩ := xc_e hf
    refine x_callv (va_runV (As := [.int a5, .int a6]) (rest := []) ⟨hx, hb, hml, hown, hts⟩ (mX12_looksAt hE a5 a6 σ17 σ19 hcl H.size) (cwV 2 hts gX12_ties_X12_looksAt rfl rfl rfl (by decide +kernel) ⟨Nat.le_of_ble_eq_true rfl, Nat.le_of_ble_eq_true rfl⟩) (x_preV _ hw hA hG (cM0 hE) rfl) rfl rfl hl.1 rfl (lv_room (Nat.le_of_ble_eq_true rfl)) dX12_ties_132 ⟨Nat.le_of_ble_eq_true rfl, Nat.le_of_ble_eq_true rfl⟩) hw hA (fun H locs hw => ?_)
    clear hcl
    exact x_vret hx hb hr hlk hw hf dX12_ties_135
  refine lv_aload_n hx hb dX12_ties_0 rfl (lv_at hl 0 rfl) ?_
  refine x_getr hx hb hw (cM0 hE) (own := RX12) (ref := RX12) (C := RX12) (T := TX12) (N := 20) hts hiX12 hown rfl 1 (by decide) hk9 (fun _ h9 => h9) rfl dX12_ties_1 ?_
  refine lv_sipush (v := 247) hx hb dX12_ties_4 (by decide) ?_
  refine lv_iload_n hx hb dX12_ties_7 rfl (lv_at hl 2 rfl) ?_
  refine lv_iadd hx hb dX12_ties_8 ?_
  obtain ⟨hin, hf⟩ := xr_f hf
  refine x_iald hx hb hw (cM1 hE) hin dX12_ties_9 ?_
  refine lv_topi (fun v1 ex => ?_)
  replace hf := hf v1 ex
  clear ex hin
  refine lv_aload_n hx hb dX12_ties_10 rfl (lv_at hl 0 rfl) ?_
  refine x_getr hx hb hw (cM0 hE) (own := RX12) (ref := RX12) (C := RX12) (T := TX12) (N := 20) hts hiX12 hown rfl 1 (by decide) hk9 (fun _ h9 => h9) rfl dX12_ties_11 ?_
  refine lv_sipush (v := 247) hx hb dX12_ties_14 (by decide) ?_
  refine lv_iload_n hx hb dX12_ties_17 rfl (lv_at hl 3 rfl) ?_
  refine lv_iadd hx hb dX12_ties_18 ?_
  obtain ⟨hin, hf⟩ := xr_f hf
  refine x_iald hx hb hw (cM1 hE) hin dX12_ties_19 ?_
  refine lv_topi (fun v2 ex => ?_)
  replace hf := hf v2 ex
  clear ex hin
  refine lv_isub hx hb dX12_ties_20 ?_
  refine lv_topi (fun v3 ex => ?_)
  replace hf := xl_f hf v3 ex
  clear ex
  refine lv_istore (lv' := [(7, .int v3), (0, .ref (E.a 0)), (1, .int p0), (2, .int p1), (3, .int p2), (4, .int p3), (5, .int p4), (6, .int p5)]) hx hb dX12_ties_21 hl (by decide) rfl (fun ls hl => ?_)
  refine lv_iload hx hb dX12_ties_23 (lv_at hl 0 rfl) ?_
  refine lv_if_ne (tgt := 29) hx hb dX12_ties_25 (by decide) (fun c25 => ?_) (fun c25 => ?_)
  · replace hf := xif_neg c25 hf
    refine lv_aload_n hx hb dX12_ties_29 rfl (lv_at hl 1 rfl) ?_
    refine lv_iload_n hx hb dX12_ties_30 rfl (lv_at hl 2 rfl) ?_
    refine lv_iconst (v := 1) hx hb dX12_ties_31 (by decide) ?_
    obtain ⟨σ5, hcl, hf⟩ := xc_e hf
    refine x_callv (va_runV (As := [.int p0, .int 1]) (rest := []) ⟨hx, hb, hml, hown, hts⟩ (mX12_fixes hE p0 1 σ σ5 hcl s.heap.size) (cwV 2 hts gX12_ties_X12_fixes rfl rfl rfl (by decide +kernel) ⟨Nat.le_of_ble_eq_true rfl, Nat.le_of_ble_eq_true rfl⟩) (x_preV _ hw hA hG (cM0 hE) rfl) rfl rfl hl.1 rfl (lv_room (Nat.le_of_ble_eq_true rfl)) dX12_ties_32 ⟨Nat.le_of_ble_eq_true rfl, Nat.le_of_ble_eq_true rfl⟩) hw hA (fun H locs hw => ?_)
    clear hcl
    refine lv_bipush (v := 100) hx hb dX12_ties_35 (by decide) ?_
    refine lv_aload_n hx hb dX12_ties_37 rfl (lv_at hl 1 rfl) ?_
    refine lv_iconst (v := (-1)) hx hb dX12_ties_38 (by decide) ?_
    obtain ⟨r6, σ7, hcl, hf⟩ := xc2_f hf
    refine x_calli (va_runV (As := [.int (-1)]) (rest := [.int 100]) ⟨hx, hb, hml, hown, hts⟩ (mX12_sumOf hE (-1) σ5 r6 σ7 hcl H.size) (cwV 1 hts gX12_ties_X12_sumOf rfl rfl rfl (by decide +kernel) ⟨Nat.le_of_ble_eq_true rfl, Nat.le_of_ble_eq_true rfl⟩) (x_preV _ hw hA hG (cM0 hE) rfl) rfl rfl hl.1 rfl (lv_room (Nat.le_of_ble_eq_true rfl)) dX12_ties_39 ⟨Nat.le_of_ble_eq_true rfl, Nat.le_of_ble_eq_true rfl⟩) hw hA (fun H locs hw => ?_)
    clear hcl
    refine lv_isub hx hb dX12_ties_42 ?_
    refine lv_topi (fun v8 ex => ?_)
    replace hf := xl_f hf v8 ex
    clear ex
    refine lv_istore (lv' := [(8, .int v8), (7, .int v3), (0, .ref (E.a 0)), (1, .int p0), (2, .int p1), (3, .int p2), (4, .int p3), (5, .int p4), (6, .int p5)]) hx hb dX12_ties_43 hl (by decide) rfl (fun ls hl => ?_)
    refine lv_bipush (v := 100) hx hb dX12_ties_45 (by decide) ?_
    refine lv_iload hx hb dX12_ties_47 (lv_at hl 6 rfl) ?_
    refine lv_imul hx hb dX12_ties_49 ?_
    refine lv_aload_n hx hb dX12_ties_50 rfl (lv_at hl 2 rfl) ?_
    refine lv_sipush (v := 247) hx hb dX12_ties_51 (by decide) ?_
    obtain ⟨r9, σ10, hcl, hf⟩ := xc2_f hf
    refine x_calli (va_runV (As := [.int 247]) (rest := [.int (100 * p3)]) ⟨hx, hb, hml, hown, hts⟩ (mX12_sumOf hE 247 σ7 r9 σ10 hcl H.size) (cwV 1 hts gX12_ties_X12_sumOf rfl rfl rfl (by decide +kernel) ⟨Nat.le_of_ble_eq_true rfl, Nat.le_of_ble_eq_true rfl⟩) (x_preV _ hw hA hG (cM0 hE) rfl) rfl rfl hl.1 rfl (lv_room (Nat.le_of_ble_eq_true rfl)) dX12_ties_54 ⟨Nat.le_of_ble_eq_true rfl, Nat.le_of_ble_eq_true rfl⟩) hw hA (fun H locs hw => ?_)
    clear hcl
    refine lv_isub hx hb dX12_ties_57 ?_
    refine lv_aload_n hx hb dX12_ties_58 rfl (lv_at hl 2 rfl) ?_
    refine x_getr hx hb hw (cM0 hE) (own := RX12) (ref := RX12) (C := RX12) (T := TX12) (N := 20) hts hiX12 hown rfl 1 (by decide) hk9 (fun _ h9 => h9) rfl dX12_ties_59 ?_
    refine lv_sipush (v := 247) hx hb dX12_ties_62 (by decide) ?_
    refine lv_iload_n hx hb dX12_ties_65 rfl (lv_at hl 5 rfl) ?_
    refine lv_iadd hx hb dX12_ties_66 ?_
    obtain ⟨hin, hf⟩ := xr_f hf
    refine x_iald hx hb hw (cM1 hE) hin dX12_ties_67 ?_
    refine lv_topi (fun v11 ex => ?_)
    replace hf := hf v11 ex
    clear ex hin
    refine lv_iload hx hb dX12_ties_68 (lv_at hl 0 rfl) ?_
    refine lv_imul hx hb dX12_ties_70 ?_
    refine lv_isub hx hb dX12_ties_71 ?_
    refine lv_topi (fun v12 ex => ?_)
    replace hf := xl_f hf v12 ex
    clear ex
    refine lv_istore (lv' := [(9, .int v12), (8, .int v8), (7, .int v3), (0, .ref (E.a 0)), (1, .int p0), (2, .int p1), (3, .int p2), (4, .int p3), (5, .int p4), (6, .int p5)]) hx hb dX12_ties_72 hl (by decide) rfl (fun ls hl => ?_)
    refine lv_iload hx hb dX12_ties_74 (lv_at hl 2 rfl) ?_
    refine lv_if_le (tgt := 83) hx hb dX12_ties_76 (by decide) (fun c76 => ?_) (fun c76 => ?_)
    · replace hf := xif_pos c76 hf
      refine lv_iconst (v := (-1)) hx hb dX12_ties_83 (by decide) ?_
      exact h84 p0 p1 p2 p4 p5 v3 v8 v12 (-1) σ10 _ _ _ hw (lv_sub hl [3, 4, 5, 6, 8, 9, 2, 1, 0] rfl) hf
    · replace hf := xif_neg c76 hf
      refine lv_iconst (v := 1) hx hb dX12_ties_79 (by decide) ?_
      refine lv_goto (tgt := 84) hx hb dX12_ties_80 (by decide) ?_
      exact h84 p0 p1 p2 p4 p5 v3 v8 v12 1 σ10 _ _ _ hw (lv_sub hl [3, 4, 5, 6, 8, 9, 2, 1, 0] rfl) hf
  · replace hf := xif_pos c25 hf
    exact x_vret hx hb hr hlk hw hf dX12_ties_28

def fX12_corner_c104 (a2 : Int32) (a3 : Int32) (σ : xSt) : Option xSt := (xc (fX12_looksAt a2 a3 σ) fun σ17 => some σ17)
def fX12_corner_c46 (a1 : Int32) (a2 : Int32) (a3 : Int32) (a4 : Int32) (a5 : Int32) (σ : xSt) : Option xSt := (if a5 = (-1) then (xc (fX12_fixes a1 1 σ) fun σ8 => (if a4 = (-1) then fX12_corner_c104 a2 a3 σ8 else (xc2 (fX12_sumOf (-1) σ8) fun r9 σ10 => (xs σ10 9 4 a4 (100 - r9) fun σ11 => fX12_corner_c104 a2 a3 σ11)))) else (xc (fX12_ties a1 a4 a5 a2 a2 a3 σ) fun σ13 => (xc (fX12_ties a1 a4 a5 a3 a2 a3 σ13) fun σ15 => some σ15)))
def fX12_corner_c25 (a1 : Int32) (a2 : Int32) (a3 : Int32) (a4 : Int32) (t0 : Int32) (σ : xSt) : Option xSt := (if t0 = (-1) then fX12_corner_c46 a1 a2 a3 a4 t0 σ else (xc2 (fX12_freeIn a1 (t0 + 1) σ) fun r5 σ6 => (if r5 = (-1) then fX12_corner_c46 a1 a2 a3 a4 t0 σ6 else some σ6)))
def fX12_corner (p0 : Int32) (p1 : Int32) (p2 : Int32) (σ : xSt) : Option xSt := (xc2 (fX12_freeIn p0 0 σ) fun r1 σ2 => (if r1 = (-1) then fX12_corner_c25 p0 p1 p2 r1 (-1) σ2 else (xc2 (fX12_freeIn p0 (r1 + 1) σ2) fun r3 σ4 => fX12_corner_c25 p0 p1 p2 r1 r3 σ4)))
abbrev rmX12_corner : Room := { frames := 4, cells := 0, slots := 0, locals := 99 }
set_option maxRecDepth 100000 in
set_option maxHeartbeats 4000000 in
theorem mX12_corner {l : Launch} {E : xE} (hE : E.sh = shM) (p0 : Int32) (p1 : Int32) (p2 : Int32) (σ : xSt) (o1 : xSt) (hf : fX12_corner p0 p1 p2 σ = some o1) : xMv l yX12_corner wsX12_corner rmX12_corner E [.ref (E.a 0), .int p0, .int p1, .int p2] σ o1 := by
  unfold fX12_corner at hf
  refine xMv_of (cc := cX12_corner) (maxL := 6) (ret := none) (by decide) rfl (Nat.le_of_ble_eq_true rfl) ?_
  intro p e s m args below meth c A ls ⟨hx, hb, hr, hml, hown, hts, hlk⟩ hA hG hw hl
  have hown : s.vm.findClass RX12 = some m.cls := hown
  have hl : lv_has ls 6 [(0, .ref (E.a 0)), (1, .int p0), (2, .int p1), (3, .int p2)] := hl
  have hk34 := hts (.fieldLink RX12 34 "OvenRoundModel" "share" "[I") (by decide +kernel)
  have hiX12 : ∀ w ∈ wsX120, w ∈ wsX12_corner := by decide +kernel
  have h104 : ∀ (a2 : Int32) (a3 : Int32) (σ : xSt) (H : Heap) (locs : List Loc) (ls : Array Slot), xw E A s.heap s σ H locs → lv_has ls 6 [(0, .ref (E.a 0)), (2, .int a2), (3, .int a3)] → fX12_corner_c104 a2 a3 σ = some o1 → W p l e rmX12_corner s m args below meth c H locs 0 0 (MQ below (xQv E A o1) args s 0 0 A) (F0 m 104 ls []) := by
    intro a2 a3 σ H locs ls hw hl hf
    unfold fX12_corner_c104 at hf
    refine lv_aload_n hx hb dX12_corner_104 rfl (lv_at hl 0 rfl) ?_
    refine lv_iload_n hx hb dX12_corner_105 rfl (lv_at hl 1 rfl) ?_
    refine lv_iload_n hx hb dX12_corner_106 rfl (lv_at hl 2 rfl) ?_
    obtain ⟨σ17, hcl, hf⟩ := xc_e hf
    refine x_callv (va_runV (As := [.int a2, .int a3]) (rest := []) ⟨hx, hb, hml, hown, hts⟩ (mX12_looksAt hE a2 a3 σ σ17 hcl H.size) (cwV 2 hts gX12_corner_X12_looksAt rfl rfl rfl (by decide +kernel) ⟨Nat.le_of_ble_eq_true rfl, Nat.le_of_ble_eq_true rfl⟩) (x_preV _ hw hA hG (cM0 hE) rfl) rfl rfl hl.1 rfl (lv_room (Nat.le_of_ble_eq_true rfl)) dX12_corner_107 ⟨Nat.le_of_ble_eq_true rfl, Nat.le_of_ble_eq_true rfl⟩) hw hA (fun H locs hw => ?_)
    clear hcl
    exact x_vret hx hb hr hlk hw hf dX12_corner_110
  have h46 : ∀ (a1 : Int32) (a2 : Int32) (a3 : Int32) (a4 : Int32) (a5 : Int32) (σ : xSt) (H : Heap) (locs : List Loc) (ls : Array Slot), xw E A s.heap s σ H locs → lv_has ls 6 [(0, .ref (E.a 0)), (1, .int a1), (2, .int a2), (3, .int a3), (4, .int a4), (5, .int a5)] → fX12_corner_c46 a1 a2 a3 a4 a5 σ = some o1 → W p l e rmX12_corner s m args below meth c H locs 0 0 (MQ below (xQv E A o1) args s 0 0 A) (F0 m 46 ls []) := by
    intro a1 a2 a3 a4 a5 σ H locs ls hw hl hf
    unfold fX12_corner_c46 at hf
    refine lv_iload hx hb dX12_corner_46 (lv_at hl 5 rfl) ?_
    refine lv_iconst (v := (-1)) hx hb dX12_corner_48 (by decide) ?_
    refine lv_icmp_eq (tgt := 77) hx hb dX12_corner_49 (by decide) (fun c49 => ?_) (fun c49 => ?_)
    · replace hf := xif_pos c49 hf
      refine lv_aload_n hx hb dX12_corner_77 rfl (lv_at hl 0 rfl) ?_
      refine lv_iload_n hx hb dX12_corner_78 rfl (lv_at hl 1 rfl) ?_
      refine lv_iconst (v := 1) hx hb dX12_corner_79 (by decide) ?_
      obtain ⟨σ8, hcl, hf⟩ := xc_e hf
      refine x_callv (va_runV (As := [.int a1, .int 1]) (rest := []) ⟨hx, hb, hml, hown, hts⟩ (mX12_fixes hE a1 1 σ σ8 hcl H.size) (cwV 2 hts gX12_corner_X12_fixes rfl rfl rfl (by decide +kernel) ⟨Nat.le_of_ble_eq_true rfl, Nat.le_of_ble_eq_true rfl⟩) (x_preV _ hw hA hG (cM0 hE) rfl) rfl rfl hl.1 rfl (lv_room (Nat.le_of_ble_eq_true rfl)) dX12_corner_80 ⟨Nat.le_of_ble_eq_true rfl, Nat.le_of_ble_eq_true rfl⟩) hw hA (fun H locs hw => ?_)
      clear hcl
      refine lv_iload hx hb dX12_corner_83 (lv_at hl 4 rfl) ?_
      refine lv_iconst (v := (-1)) hx hb dX12_corner_85 (by decide) ?_
      refine lv_icmp_eq (tgt := 104) hx hb dX12_corner_86 (by decide) (fun c86 => ?_) (fun c86 => ?_)
      · replace hf := xif_pos c86 hf
        exact h104 a2 a3 σ8 _ _ _ hw (lv_sub hl [0, 2, 3] rfl) hf
      · replace hf := xif_neg c86 hf
        refine lv_aload_n hx hb dX12_corner_89 rfl (lv_at hl 0 rfl) ?_
        refine x_getr hx hb hw (cM0 hE) (own := RX12) (ref := RX12) (C := RX12) (T := TX12) (N := 20) hts hiX12 hown rfl 12 (by decide) hk34 (fun _ h9 => h9) rfl dX12_corner_90 ?_
        refine lv_iload hx hb dX12_corner_93 (lv_at hl 4 rfl) ?_
        refine lv_bipush (v := 100) hx hb dX12_corner_95 (by decide) ?_
        refine lv_aload_n hx hb dX12_corner_97 rfl (lv_at hl 0 rfl) ?_
        refine lv_iconst (v := (-1)) hx hb dX12_corner_98 (by decide) ?_
        obtain ⟨r9, σ10, hcl, hf⟩ := xc2_f hf
        refine x_calli (va_runV (As := [.int (-1)]) (rest := [.int 100, .int a4, .ref (E.a 9)]) ⟨hx, hb, hml, hown, hts⟩ (mX12_sumOf hE (-1) σ8 r9 σ10 hcl H.size) (cwV 1 hts gX12_corner_X12_sumOf rfl rfl rfl (by decide +kernel) ⟨Nat.le_of_ble_eq_true rfl, Nat.le_of_ble_eq_true rfl⟩) (x_preV _ hw hA hG (cM0 hE) rfl) rfl rfl hl.1 rfl (lv_room (Nat.le_of_ble_eq_true rfl)) dX12_corner_99 ⟨Nat.le_of_ble_eq_true rfl, Nat.le_of_ble_eq_true rfl⟩) hw hA (fun H locs hw => ?_)
        clear hcl
        refine lv_isub hx hb dX12_corner_102 ?_
        obtain ⟨hin, hf⟩ := xs_f hf
        refine x_iast hx hb hw (cM9 hE) hin dX12_corner_103 (fun σ11 H locs ex hw => ?_)
        replace hf := hf σ11 ex
        clear ex hin
        exact h104 a2 a3 σ11 _ _ _ hw (lv_sub hl [0, 2, 3] rfl) hf
    · replace hf := xif_neg c49 hf
      refine lv_aload_n hx hb dX12_corner_52 rfl (lv_at hl 0 rfl) ?_
      refine lv_iload_n hx hb dX12_corner_53 rfl (lv_at hl 1 rfl) ?_
      refine lv_iload hx hb dX12_corner_54 (lv_at hl 4 rfl) ?_
      refine lv_iload hx hb dX12_corner_56 (lv_at hl 5 rfl) ?_
      refine lv_iload_n hx hb dX12_corner_58 rfl (lv_at hl 2 rfl) ?_
      refine lv_iload_n hx hb dX12_corner_59 rfl (lv_at hl 2 rfl) ?_
      refine lv_iload_n hx hb dX12_corner_60 rfl (lv_at hl 3 rfl) ?_
      obtain ⟨σ13, hcl, hf⟩ := xc_e hf
      refine x_callv (va_runV (As := [.int a1, .int a4, .int a5, .int a2, .int a2, .int a3]) (rest := []) ⟨hx, hb, hml, hown, hts⟩ (mX12_ties hE a1 a4 a5 a2 a2 a3 σ σ13 hcl H.size) (cwV 6 hts gX12_corner_X12_ties rfl rfl rfl (by decide +kernel) ⟨Nat.le_of_ble_eq_true rfl, Nat.le_of_ble_eq_true rfl⟩) (x_preV _ hw hA hG (cM0 hE) rfl) rfl rfl hl.1 rfl (lv_room (Nat.le_of_ble_eq_true rfl)) dX12_corner_61 ⟨Nat.le_of_ble_eq_true rfl, Nat.le_of_ble_eq_true rfl⟩) hw hA (fun H locs hw => ?_)
      clear hcl
      refine lv_aload_n hx hb dX12_corner_64 rfl (lv_at hl 0 rfl) ?_
      refine lv_iload_n hx hb dX12_corner_65 rfl (lv_at hl 1 rfl) ?_
      refine lv_iload hx hb dX12_corner_66 (lv_at hl 4 rfl) ?_
      refine lv_iload hx hb dX12_corner_68 (lv_at hl 5 rfl) ?_
      refine lv_iload_n hx hb dX12_corner_70 rfl (lv_at hl 3 rfl) ?_
      refine lv_iload_n hx hb dX12_corner_71 rfl (lv_at hl 2 rfl) ?_
      refine lv_iload_n hx hb dX12_corner_72 rfl (lv_at hl 3 rfl) ?_
      obtain ⟨σ15, hcl, hf⟩ := xc_e hf
      refine x_callv (va_runV (As := [.int a1, .int a4, .int a5, .int a3, .int a2, .int a3]) (rest := []) ⟨hx, hb, hml, hown, hts⟩ (mX12_ties hE a1 a4 a5 a3 a2 a3 σ13 σ15 hcl H.size) (cwV 6 hts gX12_corner_X12_ties rfl rfl rfl (by decide +kernel) ⟨Nat.le_of_ble_eq_true rfl, Nat.le_of_ble_eq_true rfl⟩) (x_preV _ hw hA hG (cM0 hE) rfl) rfl rfl hl.1 rfl (lv_room (Nat.le_of_ble_eq_true rfl)) dX12_corner_73 ⟨Nat.le_of_ble_eq_true rfl, Nat.le_of_ble_eq_true rfl⟩) hw hA (fun H locs hw => ?_)
      clear hcl
      exact x_vret hx hb hr hlk hw hf dX12_corner_76
  have h25 : ∀ (a1 : Int32) (a2 : Int32) (a3 : Int32) (a4 : Int32) (t0 : Int32) (σ : xSt) (H : Heap) (locs : List Loc) (ls : Array Slot), xw E A s.heap s σ H locs → lv_has ls 6 [(0, .ref (E.a 0)), (1, .int a1), (2, .int a2), (3, .int a3), (4, .int a4)] → fX12_corner_c25 a1 a2 a3 a4 t0 σ = some o1 → W p l e rmX12_corner s m args below meth c H locs 0 0 (MQ below (xQv E A o1) args s 0 0 A) (F0 m 25 ls [.int t0]) := by
    intro a1 a2 a3 a4 t0 σ H locs ls hw hl hf
    unfold fX12_corner_c25 at hf
    refine lv_istore (lv' := [(5, .int t0), (0, .ref (E.a 0)), (1, .int a1), (2, .int a2), (3, .int a3), (4, .int a4)]) hx hb dX12_corner_25 hl (by decide) rfl (fun ls hl => ?_)
    refine lv_iload hx hb dX12_corner_27 (lv_at hl 0 rfl) ?_
    refine lv_iconst (v := (-1)) hx hb dX12_corner_29 (by decide) ?_
    refine lv_icmp_eq (tgt := 46) hx hb dX12_corner_30 (by decide) (fun c30 => ?_) (fun c30 => ?_)
    · replace hf := xif_pos c30 hf
      exact h46 a1 a2 a3 a4 t0 σ _ _ _ hw (lv_sub hl [1, 2, 3, 4, 5, 0] rfl) hf
    · replace hf := xif_neg c30 hf
      refine lv_iload_n hx hb dX12_corner_33 rfl (lv_at hl 2 rfl) ?_
      refine lv_iload hx hb dX12_corner_34 (lv_at hl 0 rfl) ?_
      refine lv_iconst (v := 1) hx hb dX12_corner_36 (by decide) ?_
      refine lv_iadd hx hb dX12_corner_37 ?_
      obtain ⟨r5, σ6, hcl, hf⟩ := xc2_f hf
      refine x_calli (va_runS (As := [.int a1, .int (t0 + 1)]) (rest := []) ⟨hx, hb, hml, hown, hts⟩ (mX12_freeIn hE a1 (t0 + 1) σ r5 σ6 hcl H.size) (va_cwS 2 hts gX12_corner_X12_freeIn rfl rfl rfl (by decide +kernel) ⟨Nat.le_of_ble_eq_true rfl, Nat.le_of_ble_eq_true rfl⟩) (x_preS _ hw hA hG) rfl rfl hl.1 rfl (lv_room (Nat.le_of_ble_eq_true rfl)) dX12_corner_38 ⟨Nat.le_of_ble_eq_true rfl, Nat.le_of_ble_eq_true rfl⟩) hw hA (fun H locs hw => ?_)
      clear hcl
      refine lv_iconst (v := (-1)) hx hb dX12_corner_41 (by decide) ?_
      refine lv_icmp_eq (tgt := 46) hx hb dX12_corner_42 (by decide) (fun c42 => ?_) (fun c42 => ?_)
      · replace hf := xif_pos c42 hf
        exact h46 a1 a2 a3 a4 t0 σ6 _ _ _ hw (lv_sub hl [1, 2, 3, 4, 5, 0] rfl) hf
      · replace hf := xif_neg c42 hf
        exact x_vret hx hb hr hlk hw hf dX12_corner_45
  refine lv_iload_n hx hb dX12_corner_0 rfl (lv_at hl 1 rfl) ?_
  refine lv_iconst (v := 0) hx hb dX12_corner_1 (by decide) ?_
  obtain ⟨r1, σ2, hcl, hf⟩ := xc2_f hf
  refine x_calli (va_runS (As := [.int p0, .int 0]) (rest := []) ⟨hx, hb, hml, hown, hts⟩ (mX12_freeIn hE p0 0 σ r1 σ2 hcl s.heap.size) (va_cwS 2 hts gX12_corner_X12_freeIn rfl rfl rfl (by decide +kernel) ⟨Nat.le_of_ble_eq_true rfl, Nat.le_of_ble_eq_true rfl⟩) (x_preS _ hw hA hG) rfl rfl hl.1 rfl (lv_room (Nat.le_of_ble_eq_true rfl)) dX12_corner_2 ⟨Nat.le_of_ble_eq_true rfl, Nat.le_of_ble_eq_true rfl⟩) hw hA (fun H locs hw => ?_)
  clear hcl
  refine lv_istore (lv' := [(4, .int r1), (0, .ref (E.a 0)), (1, .int p0), (2, .int p1), (3, .int p2)]) hx hb dX12_corner_5 hl (by decide) rfl (fun ls hl => ?_)
  refine lv_iload hx hb dX12_corner_7 (lv_at hl 0 rfl) ?_
  refine lv_iconst (v := (-1)) hx hb dX12_corner_9 (by decide) ?_
  refine lv_icmp_ne (tgt := 17) hx hb dX12_corner_10 (by decide) (fun c10 => ?_) (fun c10 => ?_)
  · replace hf := xif_neg c10 hf
    refine lv_iload_n hx hb dX12_corner_17 rfl (lv_at hl 2 rfl) ?_
    refine lv_iload hx hb dX12_corner_18 (lv_at hl 0 rfl) ?_
    refine lv_iconst (v := 1) hx hb dX12_corner_20 (by decide) ?_
    refine lv_iadd hx hb dX12_corner_21 ?_
    obtain ⟨r3, σ4, hcl, hf⟩ := xc2_f hf
    refine x_calli (va_runS (As := [.int p0, .int (r1 + 1)]) (rest := []) ⟨hx, hb, hml, hown, hts⟩ (mX12_freeIn hE p0 (r1 + 1) σ2 r3 σ4 hcl H.size) (va_cwS 2 hts gX12_corner_X12_freeIn rfl rfl rfl (by decide +kernel) ⟨Nat.le_of_ble_eq_true rfl, Nat.le_of_ble_eq_true rfl⟩) (x_preS _ hw hA hG) rfl rfl hl.1 rfl (lv_room (Nat.le_of_ble_eq_true rfl)) dX12_corner_22 ⟨Nat.le_of_ble_eq_true rfl, Nat.le_of_ble_eq_true rfl⟩) hw hA (fun H locs hw => ?_)
    clear hcl
    exact h25 p0 p1 p2 r1 r3 σ4 _ _ _ hw (lv_sub hl [1, 2, 3, 4, 0] rfl) hf
  · replace hf := xif_pos c10 hf
    refine lv_iconst (v := (-1)) hx hb dX12_corner_13 (by decide) ?_
    refine lv_goto (tgt := 25) hx hb dX12_corner_14 (by decide) ?_
    exact h25 p0 p1 p2 r1 (-1) σ2 _ _ _ hw (lv_sub hl [1, 2, 3, 4, 0] rfl) hf

def fX12_mixes_c7 : Nat → Int32 → Int32 → Int32 → xSt → Option (Int32 × xSt)
  | 0 => fun _ _ _ _ => none
  | n + 1 => fun a1 a2 a3 σ => (if 81 ≤ a3 then (if (σ 0 15) ≤ 0 then some (0, σ) else some (1, σ)) else (xc (fX12_corner a3 a1 a2 σ) fun σ3 => (xl (a3 + 1) fun v4 => fX12_mixes_c7 n a1 a2 v4 σ3)))
theorem fX12_mixes_c7_s (n : Nat) (a1 : Int32) (a2 : Int32) (a3 : Int32) (σ : xSt) : fX12_mixes_c7 (n + 1) a1 a2 a3 σ = ((if 81 ≤ a3 then (if (σ 0 15) ≤ 0 then some (0, σ) else some (1, σ)) else (xc (fX12_corner a3 a1 a2 σ) fun σ3 => (xl (a3 + 1) fun v4 => fX12_mixes_c7 n a1 a2 v4 σ3))) : Option (Int32 × xSt)) := rfl
def fX12_mixes (p0 : Int32) (p1 : Int32) (σ : xSt) : Option (Int32 × xSt) := (xp σ 0 15 0 fun σ1 => fX12_mixes_c7 xFU p0 p1 0 σ1)
abbrev rmX12_mixes : Room := { frames := 5, cells := 0, slots := 0, locals := 124 }
set_option maxRecDepth 100000 in
set_option maxHeartbeats 4000000 in
theorem mX12_mixes {l : Launch} {E : xE} (hE : E.sh = shM) (p0 : Int32) (p1 : Int32) (σ : xSt) (o1 : Int32) (o2 : xSt) (hf : fX12_mixes p0 p1 σ = some (o1, o2)) : xMi l yX12_mixes wsX12_mixes rmX12_mixes E [.ref (E.a 0), .int p0, .int p1] σ o1 o2 := by
  unfold fX12_mixes at hf
  refine xMi_of (cc := cX12_mixes) (maxL := 4) (ret := (some .boolean)) (by decide) rfl (Nat.le_of_ble_eq_true rfl) ?_
  intro p e s m args below meth c A ls ⟨hx, hb, hr, hml, hown, hts, hlk⟩ hA hG hw hl
  have hown : s.vm.findClass RX12 = some m.cls := hown
  have hl : lv_has ls 4 [(0, .ref (E.a 0)), (1, .int p0), (2, .int p1)] := hl
  have hk154 := hts (.fieldLink RX12 154 "OvenRoundModel" "bestTimes" "I") (by decide +kernel)
  have hiX12 : ∀ w ∈ wsX120, w ∈ wsX12_mixes := by decide +kernel
  have h7 : ∀ (n : Nat) (a1 : Int32) (a2 : Int32) (a3 : Int32) (σ : xSt) (H : Heap) (locs : List Loc) (ls : Array Slot), xw E A s.heap s σ H locs → lv_has ls 4 [(0, .ref (E.a 0)), (1, .int a1), (2, .int a2), (3, .int a3)] → fX12_mixes_c7 n a1 a2 a3 σ = some (o1, o2) → W p l e rmX12_mixes s m args below meth c H locs 0 0 (MQ below (xQi E A o1 o2) args s 0 0 A) (F0 m 7 ls []) := by
    intro n7
    induction n7 with
    | zero => intro a1 a2 a3 σ H locs ls hw hl hf; exact nomatch hf
    | succ n7 ih7 =>
      intro a1 a2 a3 σ H locs ls hw hl hf
      rw [fX12_mixes_c7_s] at hf
      refine lv_iload_n hx hb dX12_mixes_7 rfl (lv_at hl 3 rfl) ?_
      refine lv_bipush (v := 81) hx hb dX12_mixes_8 (by decide) ?_
      refine lv_icmp_ge (tgt := 26) hx hb dX12_mixes_10 (by decide) (fun c10 => ?_) (fun c10 => ?_)
      · replace hf := xif_pos c10 hf
        refine lv_aload_n hx hb dX12_mixes_26 rfl (lv_at hl 0 rfl) ?_
        refine x_geti hx hb hw (cM0 hE) (own := RX12) (ref := RX12) (C := RX12) (T := TX12) (N := 20) hts hiX12 hown rfl 15 (by decide) hk154 (fun _ h9 => h9) rfl dX12_mixes_27 ?_
        refine lv_if_le (tgt := 37) hx hb dX12_mixes_30 (by decide) (fun c30 => ?_) (fun c30 => ?_)
        · replace hf := xif_pos c30 hf
          refine lv_iconst (v := 0) hx hb dX12_mixes_37 (by decide) ?_
          exact x_zretc hx hb hr hlk hw (by decide) hf dX12_mixes_38
        · replace hf := xif_neg c30 hf
          refine lv_iconst (v := 1) hx hb dX12_mixes_33 (by decide) ?_
          refine lv_goto (tgt := 38) hx hb dX12_mixes_34 (by decide) ?_
          exact x_zretc hx hb hr hlk hw (by decide) hf dX12_mixes_38
      · replace hf := xif_neg c10 hf
        refine lv_aload_n hx hb dX12_mixes_13 rfl (lv_at hl 0 rfl) ?_
        refine lv_iload_n hx hb dX12_mixes_14 rfl (lv_at hl 3 rfl) ?_
        refine lv_iload_n hx hb dX12_mixes_15 rfl (lv_at hl 1 rfl) ?_
        refine lv_iload_n hx hb dX12_mixes_16 rfl (lv_at hl 2 rfl) ?_
        obtain ⟨σ3, hcl, hf⟩ := xc_e hf
        refine x_callv (va_runV (As := [.int a3, .int a1, .int a2]) (rest := []) ⟨hx, hb, hml, hown, hts⟩ (mX12_corner hE a3 a1 a2 σ σ3 hcl H.size) (cwV 3 hts gX12_mixes_X12_corner rfl rfl rfl (by decide +kernel) ⟨Nat.le_of_ble_eq_true rfl, Nat.le_of_ble_eq_true rfl⟩) (x_preV _ hw hA hG (cM0 hE) rfl) rfl rfl hl.1 rfl (lv_room (Nat.le_of_ble_eq_true rfl)) dX12_mixes_17 ⟨Nat.le_of_ble_eq_true rfl, Nat.le_of_ble_eq_true rfl⟩) hw hA (fun H locs hw => ?_)
        clear hcl
        obtain ⟨v4, ex⟩ : ∃ y : Int32, y = (a3 + 1) := ⟨_, rfl⟩
        replace hf := xl_f hf v4 ex
        refine lv_iinc (v := v4) (lv' := [(3, .int v4), (0, .ref (E.a 0)), (1, .int a1), (2, .int a2)]) hx hb dX12_mixes_20 hl (k := 3) rfl (by rw [ex]; rfl) (by decide) rfl (fun ls hl => ?_)
        clear ex
        refine lv_goto (tgt := 7) hx hb dX12_mixes_23 (by decide) ?_
        exact ih7 a1 a2 v4 σ3 _ _ _ hw (lv_sub hl [1, 2, 3, 0] rfl) hf
  refine lv_aload_n hx hb dX12_mixes_0 rfl (lv_at hl 0 rfl) ?_
  refine lv_iconst (v := 0) hx hb dX12_mixes_1 (by decide) ?_
  refine x_puti hx hb hw (cM0 hE) (own := RX12) (ref := RX12) (C := RX12) (T := TX12) (N := 20) hts hiX12 tyX12 tyX12_ok nmX12 hown rfl 15 (by decide) hk154 (fun _ h9 => h9) rfl (by decide +kernel) rfl dX12_mixes_2 (fun σ1 H locs ex hw => ?_)
  replace hf := xp_f hf σ1 ex
  clear ex
  refine lv_iconst (v := 0) hx hb dX12_mixes_5 (by decide) ?_
  refine lv_istore_n (lv' := [(3, .int 0), (0, .ref (E.a 0)), (1, .int p0), (2, .int p1)]) hx hb dX12_mixes_6 rfl hl (by decide) rfl (fun ls hl => ?_)
  exact h7 xFU p0 p1 0 σ1 _ _ _ hw (lv_sub hl [1, 2, 3, 0] rfl) hf

def fX12_common_c4 : Nat → Int32 → Int32 → xSt → Option (Int32 × xSt)
  | 0 => fun _ _ _ => none
  | n + 1 => fun a2 a3 σ => (if a3 = 0 then some (a2, σ) else (xnz a3 ((xl (a2 - a2 / a3 * a3) fun v1 => fX12_common_c4 n a3 v1 σ))))
theorem fX12_common_c4_s (n : Nat) (a2 : Int32) (a3 : Int32) (σ : xSt) : fX12_common_c4 (n + 1) a2 a3 σ = ((if a3 = 0 then some (a2, σ) else (xnz a3 ((xl (a2 - a2 / a3 * a3) fun v1 => fX12_common_c4 n a3 v1 σ)))) : Option (Int32 × xSt)) := rfl
def fX12_common (p0 : Int32) (p1 : Int32) (σ : xSt) : Option (Int32 × xSt) := fX12_common_c4 xFU p0 p1 σ
abbrev rmX12_common : Room := { frames := 0, cells := 0, slots := 0, locals := 0 }
set_option maxRecDepth 100000 in
set_option maxHeartbeats 4000000 in
theorem mX12_common {l : Launch} {E : xE} (hE : E.sh = shM) (p0 : Int32) (p1 : Int32) (σ : xSt) (o1 : Int32) (o2 : xSt) (hf : fX12_common p0 p1 σ = some (o1, o2)) : xMi l yX12_common wsX12_common rmX12_common E [.int p0, .int p1] σ o1 o2 := by
  unfold fX12_common at hf
  refine xMi_of (cc := cX12_common) (maxL := 5) (ret := (some .int)) (by decide) rfl (Nat.le_of_ble_eq_true rfl) ?_
  intro p e s m args below meth c A ls ⟨hx, hb, hr, hml, hown, hts, hlk⟩ hA hG hw hl
  have hown : s.vm.findClass RX12 = some m.cls := hown
  have hl : lv_has ls 5 [(0, .int p0), (1, .int p1)] := hl
  have h4 : ∀ (n : Nat) (a2 : Int32) (a3 : Int32) (σ : xSt) (H : Heap) (locs : List Loc) (ls : Array Slot), xw E A s.heap s σ H locs → lv_has ls 5 [(2, .int a2), (3, .int a3)] → fX12_common_c4 n a2 a3 σ = some (o1, o2) → W p l e rmX12_common s m args below meth c H locs 0 0 (MQ below (xQi E A o1 o2) args s 0 0 A) (F0 m 4 ls []) := by
    intro n4
    induction n4 with
    | zero => intro a2 a3 σ H locs ls hw hl hf; exact nomatch hf
    | succ n4 ih4 =>
      intro a2 a3 σ H locs ls hw hl hf
      rw [fX12_common_c4_s] at hf
      refine lv_iload_n hx hb dX12_common_4 rfl (lv_at hl 1 rfl) ?_
      refine lv_if_eq (tgt := 21) hx hb dX12_common_5 (by decide) (fun c5 => ?_) (fun c5 => ?_)
      · replace hf := xif_pos c5 hf
        refine lv_iload_n hx hb dX12_common_21 rfl (lv_at hl 0 rfl) ?_
        exact x_iret hx hb hr hlk hw hf dX12_common_22
      · replace hf := xif_neg c5 hf
        refine lv_iload_n hx hb dX12_common_8 rfl (lv_at hl 0 rfl) ?_
        refine lv_iload_n hx hb dX12_common_9 rfl (lv_at hl 1 rfl) ?_
        obtain ⟨hne, hf⟩ := xnz_e hf
        refine lv_irem hx hb dX12_common_10 hne ?_
        refine lv_topi (fun v1 ex => ?_)
        replace hf := xl_f hf v1 ex
        clear ex
        refine lv_istore (lv' := [(4, .int v1), (2, .int a2), (3, .int a3)]) hx hb dX12_common_11 hl (by decide) rfl (fun ls hl => ?_)
        refine lv_iload_n hx hb dX12_common_13 rfl (lv_at hl 2 rfl) ?_
        refine lv_istore_n (lv' := [(2, .int a3), (4, .int v1), (3, .int a3)]) hx hb dX12_common_14 rfl hl (by decide) rfl (fun ls hl => ?_)
        refine lv_iload hx hb dX12_common_15 (lv_at hl 1 rfl) ?_
        refine lv_istore_n (lv' := [(3, .int v1), (2, .int a3), (4, .int v1)]) hx hb dX12_common_17 rfl hl (by decide) rfl (fun ls hl => ?_)
        refine lv_goto (tgt := 4) hx hb dX12_common_18 (by decide) ?_
        exact ih4 a3 v1 σ _ _ _ hw (lv_sub hl [1, 0] rfl) hf
  refine lv_iload_n hx hb dX12_common_0 rfl (lv_at hl 0 rfl) ?_
  refine lv_istore_n (lv' := [(2, .int p0), (0, .int p0), (1, .int p1)]) hx hb dX12_common_1 rfl hl (by decide) rfl (fun ls hl => ?_)
  refine lv_iload_n hx hb dX12_common_2 rfl (lv_at hl 2 rfl) ?_
  refine lv_istore_n (lv' := [(3, .int p1), (2, .int p0), (0, .int p0), (1, .int p1)]) hx hb dX12_common_3 rfl hl (by decide) rfl (fun ls hl => ?_)
  exact h4 xFU p0 p1 σ _ _ _ hw (lv_sub hl [1, 0] rfl) hf

def fX12_fraction (p0 : Int32) (p1 : Int32) (p2 : Int32) (σ : xSt) : Option (Int32 × xSt) := (xc2 (fX12_common p1 p0 σ) fun r1 σ2 => (if p2 = 0 then (xnz r1 (some ((p0 / r1), σ2))) else (xnz r1 (some ((p1 / r1), σ2)))))
abbrev rmX12_fraction : Room := { frames := 1, cells := 0, slots := 0, locals := 24 }
set_option maxRecDepth 100000 in
set_option maxHeartbeats 4000000 in
theorem mX12_fraction {l : Launch} {E : xE} (hE : E.sh = shM) (p0 : Int32) (p1 : Int32) (p2 : Int32) (σ : xSt) (o1 : Int32) (o2 : xSt) (hf : fX12_fraction p0 p1 p2 σ = some (o1, o2)) : xMi l yX12_fraction wsX12_fraction rmX12_fraction E [.int p0, .int p1, .int p2] σ o1 o2 := by
  unfold fX12_fraction at hf
  refine xMi_of (cc := cX12_fraction) (maxL := 4) (ret := (some .int)) (by decide) rfl (Nat.le_of_ble_eq_true rfl) ?_
  intro p e s m args below meth c A ls ⟨hx, hb, hr, hml, hown, hts, hlk⟩ hA hG hw hl
  have hown : s.vm.findClass RX12 = some m.cls := hown
  have hl : lv_has ls 4 [(0, .int p0), (1, .int p1), (2, .int p2)] := hl
  refine lv_iload_n hx hb dX12_fraction_0 rfl (lv_at hl 1 rfl) ?_
  refine lv_iload_n hx hb dX12_fraction_1 rfl (lv_at hl 0 rfl) ?_
  obtain ⟨r1, σ2, hcl, hf⟩ := xc2_f hf
  refine x_calli (va_runS (As := [.int p1, .int p0]) (rest := []) ⟨hx, hb, hml, hown, hts⟩ (mX12_common hE p1 p0 σ r1 σ2 hcl s.heap.size) (va_cwS 2 hts gX12_fraction_X12_common rfl rfl rfl (by decide +kernel) ⟨Nat.le_of_ble_eq_true rfl, Nat.le_of_ble_eq_true rfl⟩) (x_preS _ hw hA hG) rfl rfl hl.1 rfl (lv_room (Nat.le_of_ble_eq_true rfl)) dX12_fraction_2 ⟨Nat.le_of_ble_eq_true rfl, Nat.le_of_ble_eq_true rfl⟩) hw hA (fun H locs hw => ?_)
  clear hcl
  refine lv_istore_n (lv' := [(3, .int r1), (0, .int p0), (1, .int p1), (2, .int p2)]) hx hb dX12_fraction_5 rfl hl (by decide) rfl (fun ls hl => ?_)
  refine lv_iload_n hx hb dX12_fraction_6 rfl (lv_at hl 3 rfl) ?_
  refine lv_if_eq (tgt := 16) hx hb dX12_fraction_7 (by decide) (fun c7 => ?_) (fun c7 => ?_)
  · replace hf := xif_pos c7 hf
    refine lv_iload_n hx hb dX12_fraction_16 rfl (lv_at hl 1 rfl) ?_
    refine lv_iload_n hx hb dX12_fraction_17 rfl (lv_at hl 0 rfl) ?_
    obtain ⟨hne, hf⟩ := xnz_e hf
    refine lv_idiv hx hb dX12_fraction_18 hne ?_
    exact x_iret hx hb hr hlk hw hf dX12_fraction_19
  · replace hf := xif_neg c7 hf
    refine lv_iload_n hx hb dX12_fraction_10 rfl (lv_at hl 2 rfl) ?_
    refine lv_iload_n hx hb dX12_fraction_11 rfl (lv_at hl 0 rfl) ?_
    obtain ⟨hne, hf⟩ := xnz_e hf
    refine lv_idiv hx hb dX12_fraction_12 hne ?_
    refine lv_goto (tgt := 19) hx hb dX12_fraction_13 (by decide) ?_
    exact x_iret hx hb hr hlk hw hf dX12_fraction_19

def fX12_areBounds (p0 : Int32) (p1 : Int32) (σ : xSt) : Option (Int32 × xSt) := (xc2 (fX12_in p0 0 200 σ) fun r1 σ2 => (if r1 = 0 then some (0, σ2) else (xc2 (fX12_in p1 p0 200 σ2) fun r3 σ4 => (if r3 = 0 then some (0, σ4) else some (1, σ4)))))
abbrev rmX12_areBounds : Room := { frames := 1, cells := 0, slots := 0, locals := 22 }
set_option maxRecDepth 100000 in
set_option maxHeartbeats 4000000 in
theorem mX12_areBounds {l : Launch} {E : xE} (hE : E.sh = shM) (p0 : Int32) (p1 : Int32) (σ : xSt) (o1 : Int32) (o2 : xSt) (hf : fX12_areBounds p0 p1 σ = some (o1, o2)) : xMi l yX12_areBounds wsX12_areBounds rmX12_areBounds E [.int p0, .int p1] σ o1 o2 := by
  unfold fX12_areBounds at hf
  refine xMi_of (cc := cX12_areBounds) (maxL := 2) (ret := (some .boolean)) (by decide) rfl (Nat.le_of_ble_eq_true rfl) ?_
  intro p e s m args below meth c A ls ⟨hx, hb, hr, hml, hown, hts, hlk⟩ hA hG hw hl
  have hown : s.vm.findClass RX12 = some m.cls := hown
  have hl : lv_has ls 2 [(0, .int p0), (1, .int p1)] := hl
  refine lv_iload_n hx hb dX12_areBounds_0 rfl (lv_at hl 0 rfl) ?_
  refine lv_iconst (v := 0) hx hb dX12_areBounds_1 (by decide) ?_
  refine lv_sipush (v := 200) hx hb dX12_areBounds_2 (by decide) ?_
  obtain ⟨r1, σ2, hcl, hf⟩ := xc2_f hf
  refine x_calli (va_runS (As := [.int p0, .int 0, .int 200]) (rest := []) ⟨hx, hb, hml, hown, hts⟩ (mX12_in hE p0 0 200 σ r1 σ2 hcl s.heap.size) (va_cwS 3 hts gX12_areBounds_X12_in rfl rfl rfl (by decide +kernel) ⟨Nat.le_of_ble_eq_true rfl, Nat.le_of_ble_eq_true rfl⟩) (x_preS _ hw hA hG) rfl rfl hl.1 rfl (lv_room (Nat.le_of_ble_eq_true rfl)) dX12_areBounds_5 ⟨Nat.le_of_ble_eq_true rfl, Nat.le_of_ble_eq_true rfl⟩) hw hA (fun H locs hw => ?_)
  clear hcl
  refine lv_if_eq (tgt := 26) hx hb dX12_areBounds_8 (by decide) (fun c8 => ?_) (fun c8 => ?_)
  · replace hf := xif_pos c8 hf
    refine lv_iconst (v := 0) hx hb dX12_areBounds_26 (by decide) ?_
    exact x_zretc hx hb hr hlk hw (by decide) hf dX12_areBounds_27
  · replace hf := xif_neg c8 hf
    refine lv_iload_n hx hb dX12_areBounds_11 rfl (lv_at hl 1 rfl) ?_
    refine lv_iload_n hx hb dX12_areBounds_12 rfl (lv_at hl 0 rfl) ?_
    refine lv_sipush (v := 200) hx hb dX12_areBounds_13 (by decide) ?_
    obtain ⟨r3, σ4, hcl, hf⟩ := xc2_f hf
    refine x_calli (va_runS (As := [.int p1, .int p0, .int 200]) (rest := []) ⟨hx, hb, hml, hown, hts⟩ (mX12_in hE p1 p0 200 σ2 r3 σ4 hcl H.size) (va_cwS 3 hts gX12_areBounds_X12_in rfl rfl rfl (by decide +kernel) ⟨Nat.le_of_ble_eq_true rfl, Nat.le_of_ble_eq_true rfl⟩) (x_preS _ hw hA hG) rfl rfl hl.1 rfl (lv_room (Nat.le_of_ble_eq_true rfl)) dX12_areBounds_16 ⟨Nat.le_of_ble_eq_true rfl, Nat.le_of_ble_eq_true rfl⟩) hw hA (fun H locs hw => ?_)
    clear hcl
    refine lv_if_eq (tgt := 26) hx hb dX12_areBounds_19 (by decide) (fun c19 => ?_) (fun c19 => ?_)
    · replace hf := xif_pos c19 hf
      refine lv_iconst (v := 0) hx hb dX12_areBounds_26 (by decide) ?_
      exact x_zretc hx hb hr hlk hw (by decide) hf dX12_areBounds_27
    · replace hf := xif_neg c19 hf
      refine lv_iconst (v := 1) hx hb dX12_areBounds_22 (by decide) ?_
      refine lv_goto (tgt := 27) hx hb dX12_areBounds_23 (by decide) ?_
      exact x_zretc hx hb hr hlk hw (by decide) hf dX12_areBounds_27

def fX12_mixCost (p0 : Int32) (p1 : Int32) (p2 : Int32) (σ : xSt) : Option (Int32 × xSt) := (xc2 (fX12_areBounds p0 p1 σ) fun r1 σ2 => (xc2 (fX12_can r1 1 σ2) fun r3 σ4 => (if r3 = 0 then some (0, σ4) else (xc2 (fX12_mixes p0 p1 σ4) fun r5 σ6 => (xc2 (fX12_can r5 2 σ6) fun r7 σ8 => (if r7 = 0 then some (0, σ8) else (xc2 (fX12_bestCost σ8) fun r9 σ10 => (xc2 (fX12_fraction r9 (100 * (σ10 0 15)) p2 σ10) fun r11 σ12 => some (r11, σ12)))))))))
abbrev rmX12_mixCost : Room := { frames := 6, cells := 0, slots := 0, locals := 147 }
set_option maxRecDepth 100000 in
set_option maxHeartbeats 4000000 in
theorem mX12_mixCost {l : Launch} {E : xE} (hE : E.sh = shM) (p0 : Int32) (p1 : Int32) (p2 : Int32) (σ : xSt) (o1 : Int32) (o2 : xSt) (hf : fX12_mixCost p0 p1 p2 σ = some (o1, o2)) : xMi l yX12_mixCost wsX12_mixCost rmX12_mixCost E [.ref (E.a 0), .int p0, .int p1, .int p2] σ o1 o2 := by
  unfold fX12_mixCost at hf
  refine xMi_of (cc := cX12_mixCost) (maxL := 4) (ret := (some .int)) (by decide) rfl (Nat.le_of_ble_eq_true rfl) ?_
  intro p e s m args below meth c A ls ⟨hx, hb, hr, hml, hown, hts, hlk⟩ hA hG hw hl
  have hown : s.vm.findClass RX12 = some m.cls := hown
  have hl : lv_has ls 4 [(0, .ref (E.a 0)), (1, .int p0), (2, .int p1), (3, .int p2)] := hl
  have hk154 := hts (.fieldLink RX12 154 "OvenRoundModel" "bestTimes" "I") (by decide +kernel)
  have hiX12 : ∀ w ∈ wsX120, w ∈ wsX12_mixCost := by decide +kernel
  refine lv_aload_n hx hb dX12_mixCost_0 rfl (lv_at hl 0 rfl) ?_
  refine lv_iload_n hx hb dX12_mixCost_1 rfl (lv_at hl 1 rfl) ?_
  refine lv_iload_n hx hb dX12_mixCost_2 rfl (lv_at hl 2 rfl) ?_
  obtain ⟨r1, σ2, hcl, hf⟩ := xc2_f hf
  refine x_calli (va_runS (As := [.int p0, .int p1]) (rest := [.ref (E.a 0)]) ⟨hx, hb, hml, hown, hts⟩ (mX12_areBounds hE p0 p1 σ r1 σ2 hcl s.heap.size) (va_cwS 2 hts gX12_mixCost_X12_areBounds rfl rfl rfl (by decide +kernel) ⟨Nat.le_of_ble_eq_true rfl, Nat.le_of_ble_eq_true rfl⟩) (x_preS _ hw hA hG) rfl rfl hl.1 rfl (lv_room (Nat.le_of_ble_eq_true rfl)) dX12_mixCost_3 ⟨Nat.le_of_ble_eq_true rfl, Nat.le_of_ble_eq_true rfl⟩) hw hA (fun H locs hw => ?_)
  clear hcl
  refine lv_iconst (v := 1) hx hb dX12_mixCost_6 (by decide) ?_
  obtain ⟨r3, σ4, hcl, hf⟩ := xc2_f hf
  refine x_calli (va_runV (As := [.int r1, .int 1]) (rest := []) ⟨hx, hb, hml, hown, hts⟩ (mX12_can hE r1 1 σ2 r3 σ4 hcl H.size) (cwV 2 hts gX12_mixCost_X12_can rfl rfl rfl (by decide +kernel) ⟨Nat.le_of_ble_eq_true rfl, Nat.le_of_ble_eq_true rfl⟩) (x_preV _ hw hA hG (cM0 hE) rfl) rfl rfl hl.1 rfl (lv_room (Nat.le_of_ble_eq_true rfl)) dX12_mixCost_7 ⟨Nat.le_of_ble_eq_true rfl, Nat.le_of_ble_eq_true rfl⟩) hw hA (fun H locs hw => ?_)
  clear hcl
  refine lv_if_eq (tgt := 27) hx hb dX12_mixCost_10 (by decide) (fun c10 => ?_) (fun c10 => ?_)
  · replace hf := xif_pos c10 hf
    refine lv_iconst (v := 0) hx hb dX12_mixCost_27 (by decide) ?_
    exact x_iret hx hb hr hlk hw hf dX12_mixCost_28
  · replace hf := xif_neg c10 hf
    refine lv_aload_n hx hb dX12_mixCost_13 rfl (lv_at hl 0 rfl) ?_
    refine lv_aload_n hx hb dX12_mixCost_14 rfl (lv_at hl 0 rfl) ?_
    refine lv_iload_n hx hb dX12_mixCost_15 rfl (lv_at hl 1 rfl) ?_
    refine lv_iload_n hx hb dX12_mixCost_16 rfl (lv_at hl 2 rfl) ?_
    obtain ⟨r5, σ6, hcl, hf⟩ := xc2_f hf
    refine x_calli (va_runV (As := [.int p0, .int p1]) (rest := [.ref (E.a 0)]) ⟨hx, hb, hml, hown, hts⟩ (mX12_mixes hE p0 p1 σ4 r5 σ6 hcl H.size) (cwV 2 hts gX12_mixCost_X12_mixes rfl rfl rfl (by decide +kernel) ⟨Nat.le_of_ble_eq_true rfl, Nat.le_of_ble_eq_true rfl⟩) (x_preV _ hw hA hG (cM0 hE) rfl) rfl rfl hl.1 rfl (lv_room (Nat.le_of_ble_eq_true rfl)) dX12_mixCost_17 ⟨Nat.le_of_ble_eq_true rfl, Nat.le_of_ble_eq_true rfl⟩) hw hA (fun H locs hw => ?_)
    clear hcl
    refine lv_iconst (v := 2) hx hb dX12_mixCost_20 (by decide) ?_
    obtain ⟨r7, σ8, hcl, hf⟩ := xc2_f hf
    refine x_calli (va_runV (As := [.int r5, .int 2]) (rest := []) ⟨hx, hb, hml, hown, hts⟩ (mX12_can hE r5 2 σ6 r7 σ8 hcl H.size) (cwV 2 hts gX12_mixCost_X12_can rfl rfl rfl (by decide +kernel) ⟨Nat.le_of_ble_eq_true rfl, Nat.le_of_ble_eq_true rfl⟩) (x_preV _ hw hA hG (cM0 hE) rfl) rfl rfl hl.1 rfl (lv_room (Nat.le_of_ble_eq_true rfl)) dX12_mixCost_21 ⟨Nat.le_of_ble_eq_true rfl, Nat.le_of_ble_eq_true rfl⟩) hw hA (fun H locs hw => ?_)
    clear hcl
    refine lv_if_ne (tgt := 29) hx hb dX12_mixCost_24 (by decide) (fun c24 => ?_) (fun c24 => ?_)
    · replace hf := xif_neg c24 hf
      refine lv_aload_n hx hb dX12_mixCost_29 rfl (lv_at hl 0 rfl) ?_
      obtain ⟨r9, σ10, hcl, hf⟩ := xc2_f hf
      refine x_calli (va_runV (As := []) (rest := []) ⟨hx, hb, hml, hown, hts⟩ (mX12_bestCost hE σ8 r9 σ10 hcl H.size) (cwV 0 hts gX12_mixCost_X12_bestCost rfl rfl rfl (by decide +kernel) ⟨Nat.le_of_ble_eq_true rfl, Nat.le_of_ble_eq_true rfl⟩) (x_preV _ hw hA hG (cM0 hE) rfl) rfl rfl hl.1 rfl (lv_room (Nat.le_of_ble_eq_true rfl)) dX12_mixCost_30 ⟨Nat.le_of_ble_eq_true rfl, Nat.le_of_ble_eq_true rfl⟩) hw hA (fun H locs hw => ?_)
      clear hcl
      refine lv_bipush (v := 100) hx hb dX12_mixCost_33 (by decide) ?_
      refine lv_aload_n hx hb dX12_mixCost_35 rfl (lv_at hl 0 rfl) ?_
      refine x_geti hx hb hw (cM0 hE) (own := RX12) (ref := RX12) (C := RX12) (T := TX12) (N := 20) hts hiX12 hown rfl 15 (by decide) hk154 (fun _ h9 => h9) rfl dX12_mixCost_36 ?_
      refine lv_imul hx hb dX12_mixCost_39 ?_
      refine lv_iload_n hx hb dX12_mixCost_40 rfl (lv_at hl 3 rfl) ?_
      obtain ⟨r11, σ12, hcl, hf⟩ := xc2_f hf
      refine x_calli (va_runS (As := [.int r9, .int (100 * (σ10 0 15)), .int p2]) (rest := []) ⟨hx, hb, hml, hown, hts⟩ (mX12_fraction hE r9 (100 * (σ10 0 15)) p2 σ10 r11 σ12 hcl H.size) (va_cwS 3 hts gX12_mixCost_X12_fraction rfl rfl rfl (by decide +kernel) ⟨Nat.le_of_ble_eq_true rfl, Nat.le_of_ble_eq_true rfl⟩) (x_preS _ hw hA hG) rfl rfl hl.1 rfl (lv_room (Nat.le_of_ble_eq_true rfl)) dX12_mixCost_41 ⟨Nat.le_of_ble_eq_true rfl, Nat.le_of_ble_eq_true rfl⟩) hw hA (fun H locs hw => ?_)
      clear hcl
      exact x_iret hx hb hr hlk hw hf dX12_mixCost_44
    · replace hf := xif_pos c24 hf
      refine lv_iconst (v := 0) hx hb dX12_mixCost_27 (by decide) ?_
      exact x_iret hx hb hr hlk hw hf dX12_mixCost_28

def fX12_mixShare (p0 : Int32) (p1 : Int32) (p2 : Int32) (p3 : Int32) (σ : xSt) : Option (Int32 × xSt) := (xc2 (fX12_isFlour p2 σ) fun r1 σ2 => (xc2 (fX12_can r1 1 σ2) fun r3 σ4 => (if r3 = 0 then some (0, σ4) else (xc2 (fX12_areBounds p0 p1 σ4) fun r5 σ6 => (xc2 (fX12_can r5 2 σ6) fun r7 σ8 => (if r7 = 0 then some (0, σ8) else (xc2 (fX12_mixes p0 p1 σ8) fun r9 σ10 => (xc2 (fX12_can r9 3 σ10) fun r11 σ12 => (if r11 = 0 then some (0, σ12) else (xr σ12 10 4 p2 fun v13 => (xc2 (fX12_fraction v13 (100 * (σ12 0 15)) p3 σ12) fun r14 σ15 => some (r14, σ15))))))))))))
abbrev rmX12_mixShare : Room := { frames := 6, cells := 0, slots := 0, locals := 147 }
set_option maxRecDepth 100000 in
set_option maxHeartbeats 4000000 in
theorem mX12_mixShare {l : Launch} {E : xE} (hE : E.sh = shM) (p0 : Int32) (p1 : Int32) (p2 : Int32) (p3 : Int32) (σ : xSt) (o1 : Int32) (o2 : xSt) (hf : fX12_mixShare p0 p1 p2 p3 σ = some (o1, o2)) : xMi l yX12_mixShare wsX12_mixShare rmX12_mixShare E [.ref (E.a 0), .int p0, .int p1, .int p2, .int p3] σ o1 o2 := by
  unfold fX12_mixShare at hf
  refine xMi_of (cc := cX12_mixShare) (maxL := 5) (ret := (some .int)) (by decide) rfl (Nat.le_of_ble_eq_true rfl) ?_
  intro p e s m args below meth c A ls ⟨hx, hb, hr, hml, hown, hts, hlk⟩ hA hG hw hl
  have hown : s.vm.findClass RX12 = some m.cls := hown
  have hl : lv_has ls 5 [(0, .ref (E.a 0)), (1, .int p0), (2, .int p1), (3, .int p2), (4, .int p3)] := hl
  have hk37 := hts (.fieldLink RX12 37 "OvenRoundModel" "best" "[I") (by decide +kernel)
  have hiX12 : ∀ w ∈ wsX120, w ∈ wsX12_mixShare := by decide +kernel
  have hk154 := hts (.fieldLink RX12 154 "OvenRoundModel" "bestTimes" "I") (by decide +kernel)
  refine lv_aload_n hx hb dX12_mixShare_0 rfl (lv_at hl 0 rfl) ?_
  refine lv_iload_n hx hb dX12_mixShare_1 rfl (lv_at hl 3 rfl) ?_
  obtain ⟨r1, σ2, hcl, hf⟩ := xc2_f hf
  refine x_calli (va_runS (As := [.int p2]) (rest := [.ref (E.a 0)]) ⟨hx, hb, hml, hown, hts⟩ (mX12_isFlour hE p2 σ r1 σ2 hcl s.heap.size) (va_cwS 1 hts gX12_mixShare_X12_isFlour rfl rfl rfl (by decide +kernel) ⟨Nat.le_of_ble_eq_true rfl, Nat.le_of_ble_eq_true rfl⟩) (x_preS _ hw hA hG) rfl rfl hl.1 rfl (lv_room (Nat.le_of_ble_eq_true rfl)) dX12_mixShare_2 ⟨Nat.le_of_ble_eq_true rfl, Nat.le_of_ble_eq_true rfl⟩) hw hA (fun H locs hw => ?_)
  clear hcl
  refine lv_iconst (v := 1) hx hb dX12_mixShare_5 (by decide) ?_
  obtain ⟨r3, σ4, hcl, hf⟩ := xc2_f hf
  refine x_calli (va_runV (As := [.int r1, .int 1]) (rest := []) ⟨hx, hb, hml, hown, hts⟩ (mX12_can hE r1 1 σ2 r3 σ4 hcl H.size) (cwV 2 hts gX12_mixShare_X12_can rfl rfl rfl (by decide +kernel) ⟨Nat.le_of_ble_eq_true rfl, Nat.le_of_ble_eq_true rfl⟩) (x_preV _ hw hA hG (cM0 hE) rfl) rfl rfl hl.1 rfl (lv_room (Nat.le_of_ble_eq_true rfl)) dX12_mixShare_6 ⟨Nat.le_of_ble_eq_true rfl, Nat.le_of_ble_eq_true rfl⟩) hw hA (fun H locs hw => ?_)
  clear hcl
  refine lv_if_eq (tgt := 39) hx hb dX12_mixShare_9 (by decide) (fun c9 => ?_) (fun c9 => ?_)
  · replace hf := xif_pos c9 hf
    refine lv_iconst (v := 0) hx hb dX12_mixShare_39 (by decide) ?_
    exact x_iret hx hb hr hlk hw hf dX12_mixShare_40
  · replace hf := xif_neg c9 hf
    refine lv_aload_n hx hb dX12_mixShare_12 rfl (lv_at hl 0 rfl) ?_
    refine lv_iload_n hx hb dX12_mixShare_13 rfl (lv_at hl 1 rfl) ?_
    refine lv_iload_n hx hb dX12_mixShare_14 rfl (lv_at hl 2 rfl) ?_
    obtain ⟨r5, σ6, hcl, hf⟩ := xc2_f hf
    refine x_calli (va_runS (As := [.int p0, .int p1]) (rest := [.ref (E.a 0)]) ⟨hx, hb, hml, hown, hts⟩ (mX12_areBounds hE p0 p1 σ4 r5 σ6 hcl H.size) (va_cwS 2 hts gX12_mixShare_X12_areBounds rfl rfl rfl (by decide +kernel) ⟨Nat.le_of_ble_eq_true rfl, Nat.le_of_ble_eq_true rfl⟩) (x_preS _ hw hA hG) rfl rfl hl.1 rfl (lv_room (Nat.le_of_ble_eq_true rfl)) dX12_mixShare_15 ⟨Nat.le_of_ble_eq_true rfl, Nat.le_of_ble_eq_true rfl⟩) hw hA (fun H locs hw => ?_)
    clear hcl
    refine lv_iconst (v := 2) hx hb dX12_mixShare_18 (by decide) ?_
    obtain ⟨r7, σ8, hcl, hf⟩ := xc2_f hf
    refine x_calli (va_runV (As := [.int r5, .int 2]) (rest := []) ⟨hx, hb, hml, hown, hts⟩ (mX12_can hE r5 2 σ6 r7 σ8 hcl H.size) (cwV 2 hts gX12_mixShare_X12_can rfl rfl rfl (by decide +kernel) ⟨Nat.le_of_ble_eq_true rfl, Nat.le_of_ble_eq_true rfl⟩) (x_preV _ hw hA hG (cM0 hE) rfl) rfl rfl hl.1 rfl (lv_room (Nat.le_of_ble_eq_true rfl)) dX12_mixShare_19 ⟨Nat.le_of_ble_eq_true rfl, Nat.le_of_ble_eq_true rfl⟩) hw hA (fun H locs hw => ?_)
    clear hcl
    refine lv_if_eq (tgt := 39) hx hb dX12_mixShare_22 (by decide) (fun c22 => ?_) (fun c22 => ?_)
    · replace hf := xif_pos c22 hf
      refine lv_iconst (v := 0) hx hb dX12_mixShare_39 (by decide) ?_
      exact x_iret hx hb hr hlk hw hf dX12_mixShare_40
    · replace hf := xif_neg c22 hf
      refine lv_aload_n hx hb dX12_mixShare_25 rfl (lv_at hl 0 rfl) ?_
      refine lv_aload_n hx hb dX12_mixShare_26 rfl (lv_at hl 0 rfl) ?_
      refine lv_iload_n hx hb dX12_mixShare_27 rfl (lv_at hl 1 rfl) ?_
      refine lv_iload_n hx hb dX12_mixShare_28 rfl (lv_at hl 2 rfl) ?_
      obtain ⟨r9, σ10, hcl, hf⟩ := xc2_f hf
      refine x_calli (va_runV (As := [.int p0, .int p1]) (rest := [.ref (E.a 0)]) ⟨hx, hb, hml, hown, hts⟩ (mX12_mixes hE p0 p1 σ8 r9 σ10 hcl H.size) (cwV 2 hts gX12_mixShare_X12_mixes rfl rfl rfl (by decide +kernel) ⟨Nat.le_of_ble_eq_true rfl, Nat.le_of_ble_eq_true rfl⟩) (x_preV _ hw hA hG (cM0 hE) rfl) rfl rfl hl.1 rfl (lv_room (Nat.le_of_ble_eq_true rfl)) dX12_mixShare_29 ⟨Nat.le_of_ble_eq_true rfl, Nat.le_of_ble_eq_true rfl⟩) hw hA (fun H locs hw => ?_)
      clear hcl
      refine lv_iconst (v := 3) hx hb dX12_mixShare_32 (by decide) ?_
      obtain ⟨r11, σ12, hcl, hf⟩ := xc2_f hf
      refine x_calli (va_runV (As := [.int r9, .int 3]) (rest := []) ⟨hx, hb, hml, hown, hts⟩ (mX12_can hE r9 3 σ10 r11 σ12 hcl H.size) (cwV 2 hts gX12_mixShare_X12_can rfl rfl rfl (by decide +kernel) ⟨Nat.le_of_ble_eq_true rfl, Nat.le_of_ble_eq_true rfl⟩) (x_preV _ hw hA hG (cM0 hE) rfl) rfl rfl hl.1 rfl (lv_room (Nat.le_of_ble_eq_true rfl)) dX12_mixShare_33 ⟨Nat.le_of_ble_eq_true rfl, Nat.le_of_ble_eq_true rfl⟩) hw hA (fun H locs hw => ?_)
      clear hcl
      refine lv_if_ne (tgt := 41) hx hb dX12_mixShare_36 (by decide) (fun c36 => ?_) (fun c36 => ?_)
      · replace hf := xif_neg c36 hf
        refine lv_aload_n hx hb dX12_mixShare_41 rfl (lv_at hl 0 rfl) ?_
        refine x_getr hx hb hw (cM0 hE) (own := RX12) (ref := RX12) (C := RX12) (T := TX12) (N := 20) hts hiX12 hown rfl 13 (by decide) hk37 (fun _ h9 => h9) rfl dX12_mixShare_42 ?_
        refine lv_iload_n hx hb dX12_mixShare_45 rfl (lv_at hl 3 rfl) ?_
        obtain ⟨hin, hf⟩ := xr_f hf
        refine x_iald hx hb hw (cM10 hE) hin dX12_mixShare_46 ?_
        refine lv_topi (fun v13 ex => ?_)
        replace hf := hf v13 ex
        clear ex hin
        refine lv_bipush (v := 100) hx hb dX12_mixShare_47 (by decide) ?_
        refine lv_aload_n hx hb dX12_mixShare_49 rfl (lv_at hl 0 rfl) ?_
        refine x_geti hx hb hw (cM0 hE) (own := RX12) (ref := RX12) (C := RX12) (T := TX12) (N := 20) hts hiX12 hown rfl 15 (by decide) hk154 (fun _ h9 => h9) rfl dX12_mixShare_50 ?_
        refine lv_imul hx hb dX12_mixShare_53 ?_
        refine lv_iload hx hb dX12_mixShare_54 (lv_at hl 4 rfl) ?_
        obtain ⟨r14, σ15, hcl, hf⟩ := xc2_f hf
        refine x_calli (va_runS (As := [.int v13, .int (100 * (σ12 0 15)), .int p3]) (rest := []) ⟨hx, hb, hml, hown, hts⟩ (mX12_fraction hE v13 (100 * (σ12 0 15)) p3 σ12 r14 σ15 hcl H.size) (va_cwS 3 hts gX12_mixShare_X12_fraction rfl rfl rfl (by decide +kernel) ⟨Nat.le_of_ble_eq_true rfl, Nat.le_of_ble_eq_true rfl⟩) (x_preS _ hw hA hG) rfl rfl hl.1 rfl (lv_room (Nat.le_of_ble_eq_true rfl)) dX12_mixShare_56 ⟨Nat.le_of_ble_eq_true rfl, Nat.le_of_ble_eq_true rfl⟩) hw hA (fun H locs hw => ?_)
        clear hcl
        exact x_iret hx hb hr hlk hw hf dX12_mixShare_59
      · replace hf := xif_pos c36 hf
        refine lv_iconst (v := 0) hx hb dX12_mixShare_39 (by decide) ?_
        exact x_iret hx hb hr hlk hw hf dX12_mixShare_40
