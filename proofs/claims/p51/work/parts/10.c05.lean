def fX7_beginOf (p0 : Int32) (σ : xSt) : Option (Int32 × xSt) := (xl ((((σ 20 0) + 10) - 1) / 10) fun v1 => some (((v1 + p0) * 10), σ))
abbrev rmX7_beginOf : Room := { frames := 0, cells := 0, slots := 0, locals := 0 }
set_option maxRecDepth 100000 in
set_option maxHeartbeats 4000000 in
theorem mX7_beginOf {l : Launch} {E : xE} (hE : E.sh = shX) (p0 : Int32) (σ : xSt) (o1 : Int32) (o2 : xSt) (hf : fX7_beginOf p0 σ = some (o1, o2)) : xMi l yX7_beginOf wsX7_beginOf rmX7_beginOf E [.ref (E.a 21), .int p0] σ o1 o2 := by
  unfold fX7_beginOf at hf
  refine xMi_of (cc := cX7_beginOf) (maxL := 3) (ret := (some .int)) (by decide) rfl (Nat.le_of_ble_eq_true rfl) ?_
  intro p e s m args below meth c A ls ⟨hx, hb, hr, hml, hown, hts, hlk⟩ hA hG hw hl
  have hown : s.vm.findClass RX7 = some m.cls := hown
  have hl : lv_has ls 3 [(0, .ref (E.a 21)), (1, .int p0)] := hl
  have hk35 := hts (.fieldLink RX7 35 "OvenRound$Plan" "oven" "LOvenRound$Oven;") (by decide +kernel)
  have hiX7 : ∀ w ∈ wsX70, w ∈ wsX7_beginOf := by decide +kernel
  have hk60 := hts (.fieldLink RX7 60 "OvenRound$Oven" "tick" "I") (by decide +kernel)
  have hiX5 : ∀ w ∈ wsX50, w ∈ wsX7_beginOf := by decide +kernel
  refine lv_aload_n hx hb dX7_beginOf_0 rfl (lv_at hl 0 rfl) ?_
  refine x_getr hx hb hw (cX21 hE) (own := RX7) (ref := RX7) (C := RX7) (T := TX7) (N := 8) hts hiX7 hown rfl 2 (by decide) hk35 (fun _ h9 => h9) rfl dX7_beginOf_1 ?_
  refine x_geti hx hb hw (cX20 hE) (own := RX7) (ref := RX5) (C := RX5) (T := TX5) (N := 5) hts hiX5 hown rfl 0 (by decide) hk60 (fun _ h9 => h9) rfl dX7_beginOf_4 ?_
  refine lv_bipush (v := 10) hx hb dX7_beginOf_7 (by decide) ?_
  refine lv_iadd hx hb dX7_beginOf_9 ?_
  refine lv_iconst (v := 1) hx hb dX7_beginOf_10 (by decide) ?_
  refine lv_isub hx hb dX7_beginOf_11 ?_
  refine lv_bipush (v := 10) hx hb dX7_beginOf_12 (by decide) ?_
  refine lv_idiv hx hb dX7_beginOf_14 (by decide) ?_
  refine lv_topi (fun v1 ex => ?_)
  replace hf := xl_f hf v1 ex
  clear ex
  refine lv_istore_n (lv' := [(2, .int v1), (0, .ref (E.a 21)), (1, .int p0)]) hx hb dX7_beginOf_15 rfl hl (by decide) rfl (fun ls hl => ?_)
  refine lv_iload_n hx hb dX7_beginOf_16 rfl (lv_at hl 0 rfl) ?_
  refine lv_iload_n hx hb dX7_beginOf_17 rfl (lv_at hl 2 rfl) ?_
  refine lv_iadd hx hb dX7_beginOf_18 ?_
  refine lv_bipush (v := 10) hx hb dX7_beginOf_19 (by decide) ?_
  refine lv_imul hx hb dX7_beginOf_21 ?_
  exact x_iret hx hb hr hlk hw hf dX7_beginOf_22

def fX7_canBegin (p0 : Int32) (p1 : Int32) (σ : xSt) : Option (Int32 × xSt) := (xr σ 22 20 p0 fun v1 => (if p1 < v1 then some (0, σ) else (xr σ 23 20 p0 fun v2 => (if v2 < p1 then some (0, σ) else some (1, σ)))))
abbrev rmX7_canBegin : Room := { frames := 0, cells := 0, slots := 0, locals := 0 }
set_option maxRecDepth 100000 in
set_option maxHeartbeats 4000000 in
theorem mX7_canBegin {l : Launch} {E : xE} (hE : E.sh = shX) (p0 : Int32) (p1 : Int32) (σ : xSt) (o1 : Int32) (o2 : xSt) (hf : fX7_canBegin p0 p1 σ = some (o1, o2)) : xMi l yX7_canBegin wsX7_canBegin rmX7_canBegin E [.ref (E.a 21), .int p0, .int p1] σ o1 o2 := by
  unfold fX7_canBegin at hf
  refine xMi_of (cc := cX7_canBegin) (maxL := 3) (ret := (some .boolean)) (by decide) rfl (Nat.le_of_ble_eq_true rfl) ?_
  intro p e s m args below meth c A ls ⟨hx, hb, hr, hml, hown, hts, hlk⟩ hA hG hw hl
  have hown : s.vm.findClass RX7 = some m.cls := hown
  have hl : lv_has ls 3 [(0, .ref (E.a 21)), (1, .int p0), (2, .int p1)] := hl
  have hk9 := hts (.fieldLink RX7 9 "OvenRound$Plan" "first" "[I") (by decide +kernel)
  have hiX7 : ∀ w ∈ wsX70, w ∈ wsX7_canBegin := by decide +kernel
  have hk15 := hts (.fieldLink RX7 15 "OvenRound$Plan" "last" "[I") (by decide +kernel)
  refine lv_aload_n hx hb dX7_canBegin_0 rfl (lv_at hl 0 rfl) ?_
  refine x_getr hx hb hw (cX21 hE) (own := RX7) (ref := RX7) (C := RX7) (T := TX7) (N := 8) hts hiX7 hown rfl 3 (by decide) hk9 (fun _ h9 => h9) rfl dX7_canBegin_1 ?_
  refine lv_iload_n hx hb dX7_canBegin_4 rfl (lv_at hl 1 rfl) ?_
  obtain ⟨hin, hf⟩ := xr_f hf
  refine x_iald hx hb hw (cX22 hE) hin dX7_canBegin_5 ?_
  refine lv_topi (fun v1 ex => ?_)
  replace hf := hf v1 ex
  clear ex hin
  refine lv_iload_n hx hb dX7_canBegin_6 rfl (lv_at hl 2 rfl) ?_
  refine lv_icmp_gt (tgt := 24) hx hb dX7_canBegin_7 (by decide) (fun c7 => ?_) (fun c7 => ?_)
  · replace hf := xif_pos c7 hf
    refine lv_iconst (v := 0) hx hb dX7_canBegin_24 (by decide) ?_
    exact x_zretc hx hb hr hlk hw (by decide) hf dX7_canBegin_25
  · replace hf := xif_neg c7 hf
    refine lv_iload_n hx hb dX7_canBegin_10 rfl (lv_at hl 2 rfl) ?_
    refine lv_aload_n hx hb dX7_canBegin_11 rfl (lv_at hl 0 rfl) ?_
    refine x_getr hx hb hw (cX21 hE) (own := RX7) (ref := RX7) (C := RX7) (T := TX7) (N := 8) hts hiX7 hown rfl 4 (by decide) hk15 (fun _ h9 => h9) rfl dX7_canBegin_12 ?_
    refine lv_iload_n hx hb dX7_canBegin_15 rfl (lv_at hl 1 rfl) ?_
    obtain ⟨hin, hf⟩ := xr_f hf
    refine x_iald hx hb hw (cX23 hE) hin dX7_canBegin_16 ?_
    refine lv_topi (fun v2 ex => ?_)
    replace hf := hf v2 ex
    clear ex hin
    refine lv_icmp_gt (tgt := 24) hx hb dX7_canBegin_17 (by decide) (fun c17 => ?_) (fun c17 => ?_)
    · replace hf := xif_pos c17 hf
      refine lv_iconst (v := 0) hx hb dX7_canBegin_24 (by decide) ?_
      exact x_zretc hx hb hr hlk hw (by decide) hf dX7_canBegin_25
    · replace hf := xif_neg c17 hf
      refine lv_iconst (v := 1) hx hb dX7_canBegin_20 (by decide) ?_
      refine lv_goto (tgt := 25) hx hb dX7_canBegin_21 (by decide) ?_
      exact x_zretc hx hb hr hlk hw (by decide) hf dX7_canBegin_25

def fX7_giveRound_c18 (k2 : (Int32 → Int32 → xSt → Option xSt)) : Nat → Int32 → Int32 → Int32 → Int32 → xSt → Option xSt
  | 0 => fun _ _ _ _ _ => none
  | n + 1 => fun a1 a2 a3 a4 σ => (if (σ 12 7) ≤ a4 then (if a3 = (-1) then some σ else (xs σ 24 20 a3 a1 fun σ1 => (xl (a2 + 1) fun v2 => k2 a1 v2 σ1))) else (xr σ 24 20 a4 fun v3 => (if v3 = (-1) then (xc2 (fX7_canBegin a4 a1 σ) fun r5 σ6 => (if r5 = 0 then (xl (a4 + 1) fun v7 => fX7_giveRound_c18 k2 n a1 a2 a3 v7 σ6) else (if a3 = (-1) then (xl (a4 + 1) fun v8 => fX7_giveRound_c18 k2 n a1 a2 a4 v8 σ6) else (xr σ6 23 20 a4 fun v9 => (xr σ6 23 20 a3 fun v10 => (if v10 ≤ v9 then (xl (a4 + 1) fun v11 => fX7_giveRound_c18 k2 n a1 a2 a3 v11 σ6) else (xl (a4 + 1) fun v12 => fX7_giveRound_c18 k2 n a1 a2 a4 v12 σ6))))))) else (xl (a4 + 1) fun v4 => fX7_giveRound_c18 k2 n a1 a2 a3 v4 σ))))
theorem fX7_giveRound_c18_s (k2 : (Int32 → Int32 → xSt → Option xSt)) (n : Nat) (a1 : Int32) (a2 : Int32) (a3 : Int32) (a4 : Int32) (σ : xSt) : fX7_giveRound_c18 k2 (n + 1) a1 a2 a3 a4 σ = ((if (σ 12 7) ≤ a4 then (if a3 = (-1) then some σ else (xs σ 24 20 a3 a1 fun σ1 => (xl (a2 + 1) fun v2 => k2 a1 v2 σ1))) else (xr σ 24 20 a4 fun v3 => (if v3 = (-1) then (xc2 (fX7_canBegin a4 a1 σ) fun r5 σ6 => (if r5 = 0 then (xl (a4 + 1) fun v7 => fX7_giveRound_c18 k2 n a1 a2 a3 v7 σ6) else (if a3 = (-1) then (xl (a4 + 1) fun v8 => fX7_giveRound_c18 k2 n a1 a2 a4 v8 σ6) else (xr σ6 23 20 a4 fun v9 => (xr σ6 23 20 a3 fun v10 => (if v10 ≤ v9 then (xl (a4 + 1) fun v11 => fX7_giveRound_c18 k2 n a1 a2 a3 v11 σ6) else (xl (a4 + 1) fun v12 => fX7_giveRound_c18 k2 n a1 a2 a4 v12 σ6))))))) else (xl (a4 + 1) fun v4 => fX7_giveRound_c18 k2 n a1 a2 a3 v4 σ)))) : Option xSt) := rfl
def fX7_giveRound_c2 : Nat → Int32 → Int32 → xSt → Option xSt
  | 0 => fun _ _ _ => none
  | n + 1 => fun a1 a2 σ => (if (σ 20 2) ≤ a2 then some σ else fX7_giveRound_c18 (fX7_giveRound_c2 n) xFU a1 a2 (-1) 0 σ)
theorem fX7_giveRound_c2_s (n : Nat) (a1 : Int32) (a2 : Int32) (σ : xSt) : fX7_giveRound_c2 (n + 1) a1 a2 σ = ((if (σ 20 2) ≤ a2 then some σ else fX7_giveRound_c18 (fX7_giveRound_c2 n) xFU a1 a2 (-1) 0 σ) : Option xSt) := rfl
def fX7_giveRound (p0 : Int32) (σ : xSt) : Option xSt := fX7_giveRound_c2 xFU p0 0 σ
abbrev rmX7_giveRound : Room := { frames := 1, cells := 0, slots := 0, locals := 22 }
set_option maxRecDepth 100000 in
set_option maxHeartbeats 4000000 in
theorem mX7_giveRound {l : Launch} {E : xE} (hE : E.sh = shX) (p0 : Int32) (σ : xSt) (o1 : xSt) (hf : fX7_giveRound p0 σ = some o1) : xMv l yX7_giveRound wsX7_giveRound rmX7_giveRound E [.ref (E.a 21), .int p0] σ o1 := by
  unfold fX7_giveRound at hf
  refine xMv_of (cc := cX7_giveRound) (maxL := 5) (ret := none) (by decide) rfl (Nat.le_of_ble_eq_true rfl) ?_
  intro p e s m args below meth c A ls ⟨hx, hb, hr, hml, hown, hts, hlk⟩ hA hG hw hl
  have hown : s.vm.findClass RX7 = some m.cls := hown
  have hl : lv_has ls 5 [(0, .ref (E.a 21)), (1, .int p0)] := hl
  have hk35 := hts (.fieldLink RX7 35 "OvenRound$Plan" "oven" "LOvenRound$Oven;") (by decide +kernel)
  have hiX7 : ∀ w ∈ wsX70, w ∈ wsX7_giveRound := by decide +kernel
  have hk65 := hts (.fieldLink RX7 65 "OvenRound$Oven" "decks" "I") (by decide +kernel)
  have hiX5 : ∀ w ∈ wsX50, w ∈ wsX7_giveRound := by decide +kernel
  have hk31 := hts (.fieldLink RX7 31 "OvenRound$Plan" "doughs" "LOvenRound$Doughs;") (by decide +kernel)
  have hk39 := hts (.fieldLink RX7 39 "OvenRound$Doughs" "count" "I") (by decide +kernel)
  have hiX2 : ∀ w ∈ wsX20, w ∈ wsX7_giveRound := by decide +kernel
  have hk18 := hts (.fieldLink RX7 18 "OvenRound$Plan" "round" "[I") (by decide +kernel)
  have hk15 := hts (.fieldLink RX7 15 "OvenRound$Plan" "last" "[I") (by decide +kernel)
  have h2 : ∀ (n : Nat) (a1 : Int32) (a2 : Int32) (σ : xSt) (H : Heap) (locs : List Loc) (ls : Array Slot), xw E A s.heap s σ H locs → lv_has ls 5 [(0, .ref (E.a 21)), (1, .int a1), (2, .int a2)] → fX7_giveRound_c2 n a1 a2 σ = some o1 → W p l e rmX7_giveRound s m args below meth c H locs 0 0 (MQ below (xQv E A o1) args s 0 0 A) (F0 m 2 ls []) := by
    intro n2
    induction n2 with
    | zero => intro a1 a2 σ H locs ls hw hl hf; exact nomatch hf
    | succ n2 ih2 =>
      have h18 : ∀ (n : Nat) (a1 : Int32) (a2 : Int32) (a3 : Int32) (a4 : Int32) (σ : xSt) (H : Heap) (locs : List Loc) (ls : Array Slot), xw E A s.heap s σ H locs → lv_has ls 5 [(0, .ref (E.a 21)), (1, .int a1), (2, .int a2), (3, .int a3), (4, .int a4)] → fX7_giveRound_c18 (fX7_giveRound_c2 n2) n a1 a2 a3 a4 σ = some o1 → W p l e rmX7_giveRound s m args below meth c H locs 0 0 (MQ below (xQv E A o1) args s 0 0 A) (F0 m 18 ls []) := by
        intro n18
        induction n18 with
        | zero => intro a1 a2 a3 a4 σ H locs ls hw hl hf; exact nomatch hf
        | succ n18 ih18 =>
          intro a1 a2 a3 a4 σ H locs ls hw hl hf
          rw [fX7_giveRound_c18_s] at hf
          refine lv_iload hx hb dX7_giveRound_18 (lv_at hl 4 rfl) ?_
          refine lv_aload_n hx hb dX7_giveRound_20 rfl (lv_at hl 0 rfl) ?_
          refine x_getr hx hb hw (cX21 hE) (own := RX7) (ref := RX7) (C := RX7) (T := TX7) (N := 8) hts hiX7 hown rfl 1 (by decide) hk31 (fun _ h9 => h9) rfl dX7_giveRound_21 ?_
          refine x_geti hx hb hw (cX12 hE) (own := RX7) (ref := RX2) (C := RX2) (T := TX2) (N := 8) hts hiX2 hown rfl 7 (by decide) hk39 (fun _ h9 => h9) rfl dX7_giveRound_24 ?_
          refine lv_icmp_ge (tgt := 81) hx hb dX7_giveRound_27 (by decide) (fun c27 => ?_) (fun c27 => ?_)
          · replace hf := xif_pos c27 hf
            refine lv_iload_n hx hb dX7_giveRound_81 rfl (lv_at hl 3 rfl) ?_
            refine lv_iconst (v := (-1)) hx hb dX7_giveRound_82 (by decide) ?_
            refine lv_icmp_ne (tgt := 87) hx hb dX7_giveRound_83 (by decide) (fun c83 => ?_) (fun c83 => ?_)
            · replace hf := xif_neg c83 hf
              refine lv_aload_n hx hb dX7_giveRound_87 rfl (lv_at hl 0 rfl) ?_
              refine x_getr hx hb hw (cX21 hE) (own := RX7) (ref := RX7) (C := RX7) (T := TX7) (N := 8) hts hiX7 hown rfl 5 (by decide) hk18 (fun _ h9 => h9) rfl dX7_giveRound_88 ?_
              refine lv_iload_n hx hb dX7_giveRound_91 rfl (lv_at hl 3 rfl) ?_
              refine lv_iload_n hx hb dX7_giveRound_92 rfl (lv_at hl 1 rfl) ?_
              obtain ⟨hin, hf⟩ := xs_f hf
              refine x_iast hx hb hw (cX24 hE) hin dX7_giveRound_93 (fun σ1 H locs ex hw => ?_)
              replace hf := hf σ1 ex
              clear ex hin
              obtain ⟨v2, ex⟩ : ∃ y : Int32, y = (a2 + 1) := ⟨_, rfl⟩
              replace hf := xl_f hf v2 ex
              refine lv_iinc (v := v2) (lv' := [(2, .int v2), (0, .ref (E.a 21)), (1, .int a1), (3, .int a3), (4, .int a4)]) hx hb dX7_giveRound_94 hl (k := 2) rfl (by rw [ex]; rfl) (by decide) rfl (fun ls hl => ?_)
              clear ex
              refine lv_goto (tgt := 2) hx hb dX7_giveRound_97 (by decide) ?_
              exact ih2 a1 v2 σ1 _ _ _ hw (lv_sub hl [1, 2, 0] rfl) hf
            · replace hf := xif_pos c83 hf
              exact x_vret hx hb hr hlk hw hf dX7_giveRound_86
          · replace hf := xif_neg c27 hf
            refine lv_aload_n hx hb dX7_giveRound_30 rfl (lv_at hl 0 rfl) ?_
            refine x_getr hx hb hw (cX21 hE) (own := RX7) (ref := RX7) (C := RX7) (T := TX7) (N := 8) hts hiX7 hown rfl 5 (by decide) hk18 (fun _ h9 => h9) rfl dX7_giveRound_31 ?_
            refine lv_iload hx hb dX7_giveRound_34 (lv_at hl 4 rfl) ?_
            obtain ⟨hin, hf⟩ := xr_f hf
            refine x_iald hx hb hw (cX24 hE) hin dX7_giveRound_36 ?_
            refine lv_topi (fun v3 ex => ?_)
            replace hf := hf v3 ex
            clear ex hin
            refine lv_iconst (v := (-1)) hx hb dX7_giveRound_37 (by decide) ?_
            refine lv_icmp_ne (tgt := 75) hx hb dX7_giveRound_38 (by decide) (fun c38 => ?_) (fun c38 => ?_)
            · replace hf := xif_neg c38 hf
              obtain ⟨v4, ex⟩ : ∃ y : Int32, y = (a4 + 1) := ⟨_, rfl⟩
              replace hf := xl_f hf v4 ex
              refine lv_iinc (v := v4) (lv' := [(4, .int v4), (0, .ref (E.a 21)), (1, .int a1), (2, .int a2), (3, .int a3)]) hx hb dX7_giveRound_75 hl (k := 4) rfl (by rw [ex]; rfl) (by decide) rfl (fun ls hl => ?_)
              clear ex
              refine lv_goto (tgt := 18) hx hb dX7_giveRound_78 (by decide) ?_
              exact ih18 a1 a2 a3 v4 σ _ _ _ hw (lv_sub hl [1, 2, 3, 4, 0] rfl) hf
            · replace hf := xif_pos c38 hf
              refine lv_aload_n hx hb dX7_giveRound_41 rfl (lv_at hl 0 rfl) ?_
              refine lv_iload hx hb dX7_giveRound_42 (lv_at hl 4 rfl) ?_
              refine lv_iload_n hx hb dX7_giveRound_44 rfl (lv_at hl 1 rfl) ?_
              obtain ⟨r5, σ6, hcl, hf⟩ := xc2_f hf
              refine x_calli (va_runV (As := [.int a4, .int a1]) (rest := []) ⟨hx, hb, hml, hown, hts⟩ (mX7_canBegin hE a4 a1 σ r5 σ6 hcl H.size) (cwV 2 hts gX7_giveRound_X7_canBegin rfl rfl rfl (by decide +kernel) ⟨Nat.le_of_ble_eq_true rfl, Nat.le_of_ble_eq_true rfl⟩) (x_preV _ hw hA hG (cX21 hE) rfl) rfl rfl hl.1 rfl (lv_room (Nat.le_of_ble_eq_true rfl)) dX7_giveRound_45 ⟨Nat.le_of_ble_eq_true rfl, Nat.le_of_ble_eq_true rfl⟩) hw hA (fun H locs hw => ?_)
              clear hcl
              refine lv_if_eq (tgt := 75) hx hb dX7_giveRound_48 (by decide) (fun c48 => ?_) (fun c48 => ?_)
              · replace hf := xif_pos c48 hf
                obtain ⟨v7, ex⟩ : ∃ y : Int32, y = (a4 + 1) := ⟨_, rfl⟩
                replace hf := xl_f hf v7 ex
                refine lv_iinc (v := v7) (lv' := [(4, .int v7), (0, .ref (E.a 21)), (1, .int a1), (2, .int a2), (3, .int a3)]) hx hb dX7_giveRound_75 hl (k := 4) rfl (by rw [ex]; rfl) (by decide) rfl (fun ls hl => ?_)
                clear ex
                refine lv_goto (tgt := 18) hx hb dX7_giveRound_78 (by decide) ?_
                exact ih18 a1 a2 a3 v7 σ6 _ _ _ hw (lv_sub hl [1, 2, 3, 4, 0] rfl) hf
              · replace hf := xif_neg c48 hf
                refine lv_iload_n hx hb dX7_giveRound_51 rfl (lv_at hl 3 rfl) ?_
                refine lv_iconst (v := (-1)) hx hb dX7_giveRound_52 (by decide) ?_
                refine lv_icmp_eq (tgt := 72) hx hb dX7_giveRound_53 (by decide) (fun c53 => ?_) (fun c53 => ?_)
                · replace hf := xif_pos c53 hf
                  refine lv_iload hx hb dX7_giveRound_72 (lv_at hl 4 rfl) ?_
                  refine lv_istore_n (lv' := [(3, .int a4), (0, .ref (E.a 21)), (1, .int a1), (2, .int a2), (4, .int a4)]) hx hb dX7_giveRound_74 rfl hl (by decide) rfl (fun ls hl => ?_)
                  obtain ⟨v8, ex⟩ : ∃ y : Int32, y = (a4 + 1) := ⟨_, rfl⟩
                  replace hf := xl_f hf v8 ex
                  refine lv_iinc (v := v8) (lv' := [(4, .int v8), (3, .int a4), (0, .ref (E.a 21)), (1, .int a1), (2, .int a2)]) hx hb dX7_giveRound_75 hl (k := 4) rfl (by rw [ex]; rfl) (by decide) rfl (fun ls hl => ?_)
                  clear ex
                  refine lv_goto (tgt := 18) hx hb dX7_giveRound_78 (by decide) ?_
                  exact ih18 a1 a2 a4 v8 σ6 _ _ _ hw (lv_sub hl [2, 3, 4, 1, 0] rfl) hf
                · replace hf := xif_neg c53 hf
                  refine lv_aload_n hx hb dX7_giveRound_56 rfl (lv_at hl 0 rfl) ?_
                  refine x_getr hx hb hw (cX21 hE) (own := RX7) (ref := RX7) (C := RX7) (T := TX7) (N := 8) hts hiX7 hown rfl 4 (by decide) hk15 (fun _ h9 => h9) rfl dX7_giveRound_57 ?_
                  refine lv_iload hx hb dX7_giveRound_60 (lv_at hl 4 rfl) ?_
                  obtain ⟨hin, hf⟩ := xr_f hf
                  refine x_iald hx hb hw (cX23 hE) hin dX7_giveRound_62 ?_
                  refine lv_topi (fun v9 ex => ?_)
                  replace hf := hf v9 ex
                  clear ex hin
                  refine lv_aload_n hx hb dX7_giveRound_63 rfl (lv_at hl 0 rfl) ?_
                  refine x_getr hx hb hw (cX21 hE) (own := RX7) (ref := RX7) (C := RX7) (T := TX7) (N := 8) hts hiX7 hown rfl 4 (by decide) hk15 (fun _ h9 => h9) rfl dX7_giveRound_64 ?_
                  refine lv_iload_n hx hb dX7_giveRound_67 rfl (lv_at hl 3 rfl) ?_
                  obtain ⟨hin, hf⟩ := xr_f hf
                  refine x_iald hx hb hw (cX23 hE) hin dX7_giveRound_68 ?_
                  refine lv_topi (fun v10 ex => ?_)
                  replace hf := hf v10 ex
                  clear ex hin
                  refine lv_icmp_ge (tgt := 75) hx hb dX7_giveRound_69 (by decide) (fun c69 => ?_) (fun c69 => ?_)
                  · replace hf := xif_pos c69 hf
                    obtain ⟨v11, ex⟩ : ∃ y : Int32, y = (a4 + 1) := ⟨_, rfl⟩
                    replace hf := xl_f hf v11 ex
                    refine lv_iinc (v := v11) (lv' := [(4, .int v11), (0, .ref (E.a 21)), (1, .int a1), (2, .int a2), (3, .int a3)]) hx hb dX7_giveRound_75 hl (k := 4) rfl (by rw [ex]; rfl) (by decide) rfl (fun ls hl => ?_)
                    clear ex
                    refine lv_goto (tgt := 18) hx hb dX7_giveRound_78 (by decide) ?_
                    exact ih18 a1 a2 a3 v11 σ6 _ _ _ hw (lv_sub hl [1, 2, 3, 4, 0] rfl) hf
                  · replace hf := xif_neg c69 hf
                    refine lv_iload hx hb dX7_giveRound_72 (lv_at hl 4 rfl) ?_
                    refine lv_istore_n (lv' := [(3, .int a4), (0, .ref (E.a 21)), (1, .int a1), (2, .int a2), (4, .int a4)]) hx hb dX7_giveRound_74 rfl hl (by decide) rfl (fun ls hl => ?_)
                    obtain ⟨v12, ex⟩ : ∃ y : Int32, y = (a4 + 1) := ⟨_, rfl⟩
                    replace hf := xl_f hf v12 ex
                    refine lv_iinc (v := v12) (lv' := [(4, .int v12), (3, .int a4), (0, .ref (E.a 21)), (1, .int a1), (2, .int a2)]) hx hb dX7_giveRound_75 hl (k := 4) rfl (by rw [ex]; rfl) (by decide) rfl (fun ls hl => ?_)
                    clear ex
                    refine lv_goto (tgt := 18) hx hb dX7_giveRound_78 (by decide) ?_
                    exact ih18 a1 a2 a4 v12 σ6 _ _ _ hw (lv_sub hl [2, 3, 4, 1, 0] rfl) hf
      intro a1 a2 σ H locs ls hw hl hf
      rw [fX7_giveRound_c2_s] at hf
      refine lv_iload_n hx hb dX7_giveRound_2 rfl (lv_at hl 2 rfl) ?_
      refine lv_aload_n hx hb dX7_giveRound_3 rfl (lv_at hl 0 rfl) ?_
      refine x_getr hx hb hw (cX21 hE) (own := RX7) (ref := RX7) (C := RX7) (T := TX7) (N := 8) hts hiX7 hown rfl 2 (by decide) hk35 (fun _ h9 => h9) rfl dX7_giveRound_4 ?_
      refine x_geti hx hb hw (cX20 hE) (own := RX7) (ref := RX5) (C := RX5) (T := TX5) (N := 5) hts hiX5 hown rfl 2 (by decide) hk65 (fun _ h9 => h9) rfl dX7_giveRound_7 ?_
      refine lv_icmp_ge (tgt := 100) hx hb dX7_giveRound_10 (by decide) (fun c10 => ?_) (fun c10 => ?_)
      · replace hf := xif_pos c10 hf
        exact x_vret hx hb hr hlk hw hf dX7_giveRound_100
      · replace hf := xif_neg c10 hf
        refine lv_iconst (v := (-1)) hx hb dX7_giveRound_13 (by decide) ?_
        refine lv_istore_n (lv' := [(3, .int (-1)), (0, .ref (E.a 21)), (1, .int a1), (2, .int a2)]) hx hb dX7_giveRound_14 rfl hl (by decide) rfl (fun ls hl => ?_)
        refine lv_iconst (v := 0) hx hb dX7_giveRound_15 (by decide) ?_
        refine lv_istore (lv' := [(4, .int 0), (3, .int (-1)), (0, .ref (E.a 21)), (1, .int a1), (2, .int a2)]) hx hb dX7_giveRound_16 hl (by decide) rfl (fun ls hl => ?_)
        exact h18 xFU a1 a2 (-1) 0 σ _ _ _ hw (lv_sub hl [2, 3, 4, 1, 0] rfl) hf
  refine lv_iconst (v := 0) hx hb dX7_giveRound_0 (by decide) ?_
  refine lv_istore_n (lv' := [(2, .int 0), (0, .ref (E.a 21)), (1, .int p0)]) hx hb dX7_giveRound_1 rfl hl (by decide) rfl (fun ls hl => ?_)
  exact h2 xFU p0 0 σ _ _ _ hw (lv_sub hl [1, 2, 0] rfl) hf

def fX7_make_c33 : Nat → Int32 → xSt → Option xSt
  | 0 => fun _ _ => none
  | n + 1 => fun a1 σ => (if 40 ≤ a1 then some σ else (xc2 (fX7_beginOf a1 σ) fun r5 σ6 => (xc (fX7_giveRound r5 σ6) fun σ8 => (xl (a1 + 1) fun v9 => fX7_make_c33 n v9 σ8))))
theorem fX7_make_c33_s (n : Nat) (a1 : Int32) (σ : xSt) : fX7_make_c33 (n + 1) a1 σ = ((if 40 ≤ a1 then some σ else (xc2 (fX7_beginOf a1 σ) fun r5 σ6 => (xc (fX7_giveRound r5 σ6) fun σ8 => (xl (a1 + 1) fun v9 => fX7_make_c33 n v9 σ8)))) : Option xSt) := rfl
def fX7_make_c2 : Nat → Int32 → xSt → Option xSt
  | 0 => fun _ _ => none
  | n + 1 => fun a1 σ => (if (σ 12 7) ≤ a1 then fX7_make_c33 xFU 0 σ else (xs σ 24 20 a1 (-1) fun σ1 => (xc (fX7_setTicks a1 σ1) fun σ3 => (xl (a1 + 1) fun v4 => fX7_make_c2 n v4 σ3))))
theorem fX7_make_c2_s (n : Nat) (a1 : Int32) (σ : xSt) : fX7_make_c2 (n + 1) a1 σ = ((if (σ 12 7) ≤ a1 then fX7_make_c33 xFU 0 σ else (xs σ 24 20 a1 (-1) fun σ1 => (xc (fX7_setTicks a1 σ1) fun σ3 => (xl (a1 + 1) fun v4 => fX7_make_c2 n v4 σ3)))) : Option xSt) := rfl
def fX7_make (σ : xSt) : Option xSt := fX7_make_c2 xFU 0 σ
abbrev rmX7_make : Room := { frames := 4, cells := 0, slots := 0, locals := 88 }
set_option maxRecDepth 100000 in
set_option maxHeartbeats 4000000 in
theorem mX7_make {l : Launch} {E : xE} (hE : E.sh = shX) (σ : xSt) (o1 : xSt) (hf : fX7_make σ = some o1) : xMv l yX7_make wsX7_make rmX7_make E [.ref (E.a 21)] σ o1 := by
  unfold fX7_make at hf
  refine xMv_of (cc := cX7_make) (maxL := 2) (ret := none) (by decide) rfl (Nat.le_of_ble_eq_true rfl) ?_
  intro p e s m args below meth c A ls ⟨hx, hb, hr, hml, hown, hts, hlk⟩ hA hG hw hl
  have hown : s.vm.findClass RX7 = some m.cls := hown
  have hl : lv_has ls 2 [(0, .ref (E.a 21))] := hl
  have hk31 := hts (.fieldLink RX7 31 "OvenRound$Plan" "doughs" "LOvenRound$Doughs;") (by decide +kernel)
  have hiX7 : ∀ w ∈ wsX70, w ∈ wsX7_make := by decide +kernel
  have hk39 := hts (.fieldLink RX7 39 "OvenRound$Doughs" "count" "I") (by decide +kernel)
  have hiX2 : ∀ w ∈ wsX20, w ∈ wsX7_make := by decide +kernel
  have hk18 := hts (.fieldLink RX7 18 "OvenRound$Plan" "round" "[I") (by decide +kernel)
  have h33 : ∀ (n : Nat) (a1 : Int32) (σ : xSt) (H : Heap) (locs : List Loc) (ls : Array Slot), xw E A s.heap s σ H locs → lv_has ls 2 [(0, .ref (E.a 21)), (1, .int a1)] → fX7_make_c33 n a1 σ = some o1 → W p l e rmX7_make s m args below meth c H locs 0 0 (MQ below (xQv E A o1) args s 0 0 A) (F0 m 33 ls []) := by
    intro n33
    induction n33 with
    | zero => intro a1 σ H locs ls hw hl hf; exact nomatch hf
    | succ n33 ih33 =>
      intro a1 σ H locs ls hw hl hf
      rw [fX7_make_c33_s] at hf
      refine lv_iload_n hx hb dX7_make_33 rfl (lv_at hl 1 rfl) ?_
      refine lv_bipush (v := 40) hx hb dX7_make_34 (by decide) ?_
      refine lv_icmp_ge (tgt := 54) hx hb dX7_make_36 (by decide) (fun c36 => ?_) (fun c36 => ?_)
      · replace hf := xif_pos c36 hf
        exact x_vret hx hb hr hlk hw hf dX7_make_54
      · replace hf := xif_neg c36 hf
        refine lv_aload_n hx hb dX7_make_39 rfl (lv_at hl 0 rfl) ?_
        refine lv_aload_n hx hb dX7_make_40 rfl (lv_at hl 0 rfl) ?_
        refine lv_iload_n hx hb dX7_make_41 rfl (lv_at hl 1 rfl) ?_
        obtain ⟨r5, σ6, hcl, hf⟩ := xc2_f hf
        refine x_calli (va_runV (As := [.int a1]) (rest := [.ref (E.a 21)]) ⟨hx, hb, hml, hown, hts⟩ (mX7_beginOf hE a1 σ r5 σ6 hcl H.size) (cwV 1 hts gX7_make_X7_beginOf rfl rfl rfl (by decide +kernel) ⟨Nat.le_of_ble_eq_true rfl, Nat.le_of_ble_eq_true rfl⟩) (x_preV _ hw hA hG (cX21 hE) rfl) rfl rfl hl.1 rfl (lv_room (Nat.le_of_ble_eq_true rfl)) dX7_make_42 ⟨Nat.le_of_ble_eq_true rfl, Nat.le_of_ble_eq_true rfl⟩) hw hA (fun H locs hw => ?_)
        clear hcl
        obtain ⟨σ8, hcl, hf⟩ := xc_e hf
        refine x_callv (va_runV (As := [.int r5]) (rest := []) ⟨hx, hb, hml, hown, hts⟩ (mX7_giveRound hE r5 σ6 σ8 hcl H.size) (cwV 1 hts gX7_make_X7_giveRound rfl rfl rfl (by decide +kernel) ⟨Nat.le_of_ble_eq_true rfl, Nat.le_of_ble_eq_true rfl⟩) (x_preV _ hw hA hG (cX21 hE) rfl) rfl rfl hl.1 rfl (lv_room (Nat.le_of_ble_eq_true rfl)) dX7_make_45 ⟨Nat.le_of_ble_eq_true rfl, Nat.le_of_ble_eq_true rfl⟩) hw hA (fun H locs hw => ?_)
        clear hcl
        obtain ⟨v9, ex⟩ : ∃ y : Int32, y = (a1 + 1) := ⟨_, rfl⟩
        replace hf := xl_f hf v9 ex
        refine lv_iinc (v := v9) (lv' := [(1, .int v9), (0, .ref (E.a 21))]) hx hb dX7_make_48 hl (k := 1) rfl (by rw [ex]; rfl) (by decide) rfl (fun ls hl => ?_)
        clear ex
        refine lv_goto (tgt := 33) hx hb dX7_make_51 (by decide) ?_
        exact ih33 v9 σ8 _ _ _ hw (lv_sub hl [1, 0] rfl) hf
  have h2 : ∀ (n : Nat) (a1 : Int32) (σ : xSt) (H : Heap) (locs : List Loc) (ls : Array Slot), xw E A s.heap s σ H locs → lv_has ls 2 [(0, .ref (E.a 21)), (1, .int a1)] → fX7_make_c2 n a1 σ = some o1 → W p l e rmX7_make s m args below meth c H locs 0 0 (MQ below (xQv E A o1) args s 0 0 A) (F0 m 2 ls []) := by
    intro n2
    induction n2 with
    | zero => intro a1 σ H locs ls hw hl hf; exact nomatch hf
    | succ n2 ih2 =>
      intro a1 σ H locs ls hw hl hf
      rw [fX7_make_c2_s] at hf
      refine lv_iload_n hx hb dX7_make_2 rfl (lv_at hl 1 rfl) ?_
      refine lv_aload_n hx hb dX7_make_3 rfl (lv_at hl 0 rfl) ?_
      refine x_getr hx hb hw (cX21 hE) (own := RX7) (ref := RX7) (C := RX7) (T := TX7) (N := 8) hts hiX7 hown rfl 1 (by decide) hk31 (fun _ h9 => h9) rfl dX7_make_4 ?_
      refine x_geti hx hb hw (cX12 hE) (own := RX7) (ref := RX2) (C := RX2) (T := TX2) (N := 8) hts hiX2 hown rfl 7 (by decide) hk39 (fun _ h9 => h9) rfl dX7_make_7 ?_
      refine lv_icmp_ge (tgt := 31) hx hb dX7_make_10 (by decide) (fun c10 => ?_) (fun c10 => ?_)
      · replace hf := xif_pos c10 hf
        refine lv_iconst (v := 0) hx hb dX7_make_31 (by decide) ?_
        refine lv_istore_n (lv' := [(1, .int 0), (0, .ref (E.a 21))]) hx hb dX7_make_32 rfl hl (by decide) rfl (fun ls hl => ?_)
        exact h33 xFU 0 σ _ _ _ hw (lv_sub hl [1, 0] rfl) hf
      · replace hf := xif_neg c10 hf
        refine lv_aload_n hx hb dX7_make_13 rfl (lv_at hl 0 rfl) ?_
        refine x_getr hx hb hw (cX21 hE) (own := RX7) (ref := RX7) (C := RX7) (T := TX7) (N := 8) hts hiX7 hown rfl 5 (by decide) hk18 (fun _ h9 => h9) rfl dX7_make_14 ?_
        refine lv_iload_n hx hb dX7_make_17 rfl (lv_at hl 1 rfl) ?_
        refine lv_iconst (v := (-1)) hx hb dX7_make_18 (by decide) ?_
        obtain ⟨hin, hf⟩ := xs_f hf
        refine x_iast hx hb hw (cX24 hE) hin dX7_make_19 (fun σ1 H locs ex hw => ?_)
        replace hf := hf σ1 ex
        clear ex hin
        refine lv_aload_n hx hb dX7_make_20 rfl (lv_at hl 0 rfl) ?_
        refine lv_iload_n hx hb dX7_make_21 rfl (lv_at hl 1 rfl) ?_
        obtain ⟨σ3, hcl, hf⟩ := xc_e hf
        refine x_callv (va_runV (As := [.int a1]) (rest := []) ⟨hx, hb, hml, hown, hts⟩ (mX7_setTicks hE a1 σ1 σ3 hcl H.size) (cwV 1 hts gX7_make_X7_setTicks rfl rfl rfl (by decide +kernel) ⟨Nat.le_of_ble_eq_true rfl, Nat.le_of_ble_eq_true rfl⟩) (x_preV _ hw hA hG (cX21 hE) rfl) rfl rfl hl.1 rfl (lv_room (Nat.le_of_ble_eq_true rfl)) dX7_make_22 ⟨Nat.le_of_ble_eq_true rfl, Nat.le_of_ble_eq_true rfl⟩) hw hA (fun H locs hw => ?_)
        clear hcl
        obtain ⟨v4, ex⟩ : ∃ y : Int32, y = (a1 + 1) := ⟨_, rfl⟩
        replace hf := xl_f hf v4 ex
        refine lv_iinc (v := v4) (lv' := [(1, .int v4), (0, .ref (E.a 21))]) hx hb dX7_make_25 hl (k := 1) rfl (by rw [ex]; rfl) (by decide) rfl (fun ls hl => ?_)
        clear ex
        refine lv_goto (tgt := 2) hx hb dX7_make_28 (by decide) ?_
        exact ih2 v4 σ3 _ _ _ hw (lv_sub hl [1, 0] rfl) hf
  refine lv_iconst (v := 0) hx hb dX7_make_0 (by decide) ?_
  refine lv_istore_n (lv' := [(1, .int 0), (0, .ref (E.a 21))]) hx hb dX7_make_1 rfl hl (by decide) rfl (fun ls hl => ?_)
  exact h2 xFU 0 σ _ _ _ hw (lv_sub hl [1, 0] rfl) hf

def fX7_isInPlan (p0 : Int32) (σ : xSt) : Option (Int32 × xSt) := (xr σ 22 20 p0 fun v1 => (xr σ 23 20 p0 fun v2 => (if v2 < v1 then some (0, σ) else some (1, σ))))
abbrev rmX7_isInPlan : Room := { frames := 0, cells := 0, slots := 0, locals := 0 }
set_option maxRecDepth 100000 in
set_option maxHeartbeats 4000000 in
theorem mX7_isInPlan {l : Launch} {E : xE} (hE : E.sh = shX) (p0 : Int32) (σ : xSt) (o1 : Int32) (o2 : xSt) (hf : fX7_isInPlan p0 σ = some (o1, o2)) : xMi l yX7_isInPlan wsX7_isInPlan rmX7_isInPlan E [.ref (E.a 21), .int p0] σ o1 o2 := by
  unfold fX7_isInPlan at hf
  refine xMi_of (cc := cX7_isInPlan) (maxL := 2) (ret := (some .boolean)) (by decide) rfl (Nat.le_of_ble_eq_true rfl) ?_
  intro p e s m args below meth c A ls ⟨hx, hb, hr, hml, hown, hts, hlk⟩ hA hG hw hl
  have hown : s.vm.findClass RX7 = some m.cls := hown
  have hl : lv_has ls 2 [(0, .ref (E.a 21)), (1, .int p0)] := hl
  have hk9 := hts (.fieldLink RX7 9 "OvenRound$Plan" "first" "[I") (by decide +kernel)
  have hiX7 : ∀ w ∈ wsX70, w ∈ wsX7_isInPlan := by decide +kernel
  have hk15 := hts (.fieldLink RX7 15 "OvenRound$Plan" "last" "[I") (by decide +kernel)
  refine lv_aload_n hx hb dX7_isInPlan_0 rfl (lv_at hl 0 rfl) ?_
  refine x_getr hx hb hw (cX21 hE) (own := RX7) (ref := RX7) (C := RX7) (T := TX7) (N := 8) hts hiX7 hown rfl 3 (by decide) hk9 (fun _ h9 => h9) rfl dX7_isInPlan_1 ?_
  refine lv_iload_n hx hb dX7_isInPlan_4 rfl (lv_at hl 1 rfl) ?_
  obtain ⟨hin, hf⟩ := xr_f hf
  refine x_iald hx hb hw (cX22 hE) hin dX7_isInPlan_5 ?_
  refine lv_topi (fun v1 ex => ?_)
  replace hf := hf v1 ex
  clear ex hin
  refine lv_aload_n hx hb dX7_isInPlan_6 rfl (lv_at hl 0 rfl) ?_
  refine x_getr hx hb hw (cX21 hE) (own := RX7) (ref := RX7) (C := RX7) (T := TX7) (N := 8) hts hiX7 hown rfl 4 (by decide) hk15 (fun _ h9 => h9) rfl dX7_isInPlan_7 ?_
  refine lv_iload_n hx hb dX7_isInPlan_10 rfl (lv_at hl 1 rfl) ?_
  obtain ⟨hin, hf⟩ := xr_f hf
  refine x_iald hx hb hw (cX23 hE) hin dX7_isInPlan_11 ?_
  refine lv_topi (fun v2 ex => ?_)
  replace hf := hf v2 ex
  clear ex hin
  refine lv_icmp_gt (tgt := 19) hx hb dX7_isInPlan_12 (by decide) (fun c12 => ?_) (fun c12 => ?_)
  · replace hf := xif_pos c12 hf
    refine lv_iconst (v := 0) hx hb dX7_isInPlan_19 (by decide) ?_
    exact x_zretc hx hb hr hlk hw (by decide) hf dX7_isInPlan_20
  · replace hf := xif_neg c12 hf
    refine lv_iconst (v := 1) hx hb dX7_isInPlan_15 (by decide) ?_
    refine lv_goto (tgt := 20) hx hb dX7_isInPlan_16 (by decide) ?_
    exact x_zretc hx hb hr hlk hw (by decide) hf dX7_isInPlan_20

def fX7_doughsInPlan_c4 : Nat → Int32 → Int32 → xSt → Option (Int32 × xSt)
  | 0 => fun _ _ _ => none
  | n + 1 => fun a1 a2 σ => (if (σ 12 7) ≤ a2 then some (a1, σ) else (xc2 (fX7_isInPlan a2 σ) fun r1 σ2 => (if r1 = 0 then (xl (a2 + 1) fun v3 => fX7_doughsInPlan_c4 n a1 v3 σ2) else (xl (a1 + 1) fun v4 => (xl (a2 + 1) fun v5 => fX7_doughsInPlan_c4 n v4 v5 σ2)))))
theorem fX7_doughsInPlan_c4_s (n : Nat) (a1 : Int32) (a2 : Int32) (σ : xSt) : fX7_doughsInPlan_c4 (n + 1) a1 a2 σ = ((if (σ 12 7) ≤ a2 then some (a1, σ) else (xc2 (fX7_isInPlan a2 σ) fun r1 σ2 => (if r1 = 0 then (xl (a2 + 1) fun v3 => fX7_doughsInPlan_c4 n a1 v3 σ2) else (xl (a1 + 1) fun v4 => (xl (a2 + 1) fun v5 => fX7_doughsInPlan_c4 n v4 v5 σ2))))) : Option (Int32 × xSt)) := rfl
def fX7_doughsInPlan (σ : xSt) : Option (Int32 × xSt) := fX7_doughsInPlan_c4 xFU 0 0 σ
abbrev rmX7_doughsInPlan : Room := { frames := 1, cells := 0, slots := 0, locals := 21 }
set_option maxRecDepth 100000 in
set_option maxHeartbeats 4000000 in
theorem mX7_doughsInPlan {l : Launch} {E : xE} (hE : E.sh = shX) (σ : xSt) (o1 : Int32) (o2 : xSt) (hf : fX7_doughsInPlan σ = some (o1, o2)) : xMi l yX7_doughsInPlan wsX7_doughsInPlan rmX7_doughsInPlan E [.ref (E.a 21)] σ o1 o2 := by
  unfold fX7_doughsInPlan at hf
  refine xMi_of (cc := cX7_doughsInPlan) (maxL := 3) (ret := (some .int)) (by decide) rfl (Nat.le_of_ble_eq_true rfl) ?_
  intro p e s m args below meth c A ls ⟨hx, hb, hr, hml, hown, hts, hlk⟩ hA hG hw hl
  have hown : s.vm.findClass RX7 = some m.cls := hown
  have hl : lv_has ls 3 [(0, .ref (E.a 21))] := hl
  have hk31 := hts (.fieldLink RX7 31 "OvenRound$Plan" "doughs" "LOvenRound$Doughs;") (by decide +kernel)
  have hiX7 : ∀ w ∈ wsX70, w ∈ wsX7_doughsInPlan := by decide +kernel
  have hk39 := hts (.fieldLink RX7 39 "OvenRound$Doughs" "count" "I") (by decide +kernel)
  have hiX2 : ∀ w ∈ wsX20, w ∈ wsX7_doughsInPlan := by decide +kernel
  have h4 : ∀ (n : Nat) (a1 : Int32) (a2 : Int32) (σ : xSt) (H : Heap) (locs : List Loc) (ls : Array Slot), xw E A s.heap s σ H locs → lv_has ls 3 [(0, .ref (E.a 21)), (1, .int a1), (2, .int a2)] → fX7_doughsInPlan_c4 n a1 a2 σ = some (o1, o2) → W p l e rmX7_doughsInPlan s m args below meth c H locs 0 0 (MQ below (xQi E A o1 o2) args s 0 0 A) (F0 m 4 ls []) := by
    intro n4
    induction n4 with
    | zero => intro a1 a2 σ H locs ls hw hl hf; exact nomatch hf
    | succ n4 ih4 =>
      intro a1 a2 σ H locs ls hw hl hf
      rw [fX7_doughsInPlan_c4_s] at hf
      refine lv_iload_n hx hb dX7_doughsInPlan_4 rfl (lv_at hl 2 rfl) ?_
      refine lv_aload_n hx hb dX7_doughsInPlan_5 rfl (lv_at hl 0 rfl) ?_
      refine x_getr hx hb hw (cX21 hE) (own := RX7) (ref := RX7) (C := RX7) (T := TX7) (N := 8) hts hiX7 hown rfl 1 (by decide) hk31 (fun _ h9 => h9) rfl dX7_doughsInPlan_6 ?_
      refine x_geti hx hb hw (cX12 hE) (own := RX7) (ref := RX2) (C := RX2) (T := TX2) (N := 8) hts hiX2 hown rfl 7 (by decide) hk39 (fun _ h9 => h9) rfl dX7_doughsInPlan_9 ?_
      refine lv_icmp_ge (tgt := 32) hx hb dX7_doughsInPlan_12 (by decide) (fun c12 => ?_) (fun c12 => ?_)
      · replace hf := xif_pos c12 hf
        refine lv_iload_n hx hb dX7_doughsInPlan_32 rfl (lv_at hl 1 rfl) ?_
        exact x_iret hx hb hr hlk hw hf dX7_doughsInPlan_33
      · replace hf := xif_neg c12 hf
        refine lv_aload_n hx hb dX7_doughsInPlan_15 rfl (lv_at hl 0 rfl) ?_
        refine lv_iload_n hx hb dX7_doughsInPlan_16 rfl (lv_at hl 2 rfl) ?_
        obtain ⟨r1, σ2, hcl, hf⟩ := xc2_f hf
        refine x_calli (va_runV (As := [.int a2]) (rest := []) ⟨hx, hb, hml, hown, hts⟩ (mX7_isInPlan hE a2 σ r1 σ2 hcl H.size) (cwV 1 hts gX7_doughsInPlan_X7_isInPlan rfl rfl rfl (by decide +kernel) ⟨Nat.le_of_ble_eq_true rfl, Nat.le_of_ble_eq_true rfl⟩) (x_preV _ hw hA hG (cX21 hE) rfl) rfl rfl hl.1 rfl (lv_room (Nat.le_of_ble_eq_true rfl)) dX7_doughsInPlan_17 ⟨Nat.le_of_ble_eq_true rfl, Nat.le_of_ble_eq_true rfl⟩) hw hA (fun H locs hw => ?_)
        clear hcl
        refine lv_if_eq (tgt := 26) hx hb dX7_doughsInPlan_20 (by decide) (fun c20 => ?_) (fun c20 => ?_)
        · replace hf := xif_pos c20 hf
          obtain ⟨v3, ex⟩ : ∃ y : Int32, y = (a2 + 1) := ⟨_, rfl⟩
          replace hf := xl_f hf v3 ex
          refine lv_iinc (v := v3) (lv' := [(2, .int v3), (0, .ref (E.a 21)), (1, .int a1)]) hx hb dX7_doughsInPlan_26 hl (k := 2) rfl (by rw [ex]; rfl) (by decide) rfl (fun ls hl => ?_)
          clear ex
          refine lv_goto (tgt := 4) hx hb dX7_doughsInPlan_29 (by decide) ?_
          exact ih4 a1 v3 σ2 _ _ _ hw (lv_sub hl [1, 2, 0] rfl) hf
        · replace hf := xif_neg c20 hf
          obtain ⟨v4, ex⟩ : ∃ y : Int32, y = (a1 + 1) := ⟨_, rfl⟩
          replace hf := xl_f hf v4 ex
          refine lv_iinc (v := v4) (lv' := [(1, .int v4), (0, .ref (E.a 21)), (2, .int a2)]) hx hb dX7_doughsInPlan_23 hl (k := 1) rfl (by rw [ex]; rfl) (by decide) rfl (fun ls hl => ?_)
          clear ex
          obtain ⟨v5, ex⟩ : ∃ y : Int32, y = (a2 + 1) := ⟨_, rfl⟩
          replace hf := xl_f hf v5 ex
          refine lv_iinc (v := v5) (lv' := [(2, .int v5), (1, .int v4), (0, .ref (E.a 21))]) hx hb dX7_doughsInPlan_26 hl (k := 2) rfl (by rw [ex]; rfl) (by decide) rfl (fun ls hl => ?_)
          clear ex
          refine lv_goto (tgt := 4) hx hb dX7_doughsInPlan_29 (by decide) ?_
          exact ih4 v4 v5 σ2 _ _ _ hw (lv_sub hl [2, 1, 0] rfl) hf
  refine lv_iconst (v := 0) hx hb dX7_doughsInPlan_0 (by decide) ?_
  refine lv_istore_n (lv' := [(1, .int 0), (0, .ref (E.a 21))]) hx hb dX7_doughsInPlan_1 rfl hl (by decide) rfl (fun ls hl => ?_)
  refine lv_iconst (v := 0) hx hb dX7_doughsInPlan_2 (by decide) ?_
  refine lv_istore_n (lv' := [(2, .int 0), (1, .int 0), (0, .ref (E.a 21))]) hx hb dX7_doughsInPlan_3 rfl hl (by decide) rfl (fun ls hl => ?_)
  exact h4 xFU 0 0 σ _ _ _ hw (lv_sub hl [2, 1, 0] rfl) hf

def fX7_doughsWithoutRound_c4 : Nat → Int32 → Int32 → xSt → Option (Int32 × xSt)
  | 0 => fun _ _ _ => none
  | n + 1 => fun a1 a2 σ => (if (σ 12 7) ≤ a2 then some (a1, σ) else (xc2 (fX7_isInPlan a2 σ) fun r1 σ2 => (if r1 = 0 then (xl (a2 + 1) fun v3 => fX7_doughsWithoutRound_c4 n a1 v3 σ2) else (xr σ2 24 20 a2 fun v4 => (if v4 = (-1) then (xl (a1 + 1) fun v6 => (xl (a2 + 1) fun v7 => fX7_doughsWithoutRound_c4 n v6 v7 σ2)) else (xl (a2 + 1) fun v5 => fX7_doughsWithoutRound_c4 n a1 v5 σ2))))))
theorem fX7_doughsWithoutRound_c4_s (n : Nat) (a1 : Int32) (a2 : Int32) (σ : xSt) : fX7_doughsWithoutRound_c4 (n + 1) a1 a2 σ = ((if (σ 12 7) ≤ a2 then some (a1, σ) else (xc2 (fX7_isInPlan a2 σ) fun r1 σ2 => (if r1 = 0 then (xl (a2 + 1) fun v3 => fX7_doughsWithoutRound_c4 n a1 v3 σ2) else (xr σ2 24 20 a2 fun v4 => (if v4 = (-1) then (xl (a1 + 1) fun v6 => (xl (a2 + 1) fun v7 => fX7_doughsWithoutRound_c4 n v6 v7 σ2)) else (xl (a2 + 1) fun v5 => fX7_doughsWithoutRound_c4 n a1 v5 σ2)))))) : Option (Int32 × xSt)) := rfl
def fX7_doughsWithoutRound (σ : xSt) : Option (Int32 × xSt) := fX7_doughsWithoutRound_c4 xFU 0 0 σ
abbrev rmX7_doughsWithoutRound : Room := { frames := 1, cells := 0, slots := 0, locals := 21 }
set_option maxRecDepth 100000 in
set_option maxHeartbeats 4000000 in
theorem mX7_doughsWithoutRound {l : Launch} {E : xE} (hE : E.sh = shX) (σ : xSt) (o1 : Int32) (o2 : xSt) (hf : fX7_doughsWithoutRound σ = some (o1, o2)) : xMi l yX7_doughsWithoutRound wsX7_doughsWithoutRound rmX7_doughsWithoutRound E [.ref (E.a 21)] σ o1 o2 := by
  unfold fX7_doughsWithoutRound at hf
  refine xMi_of (cc := cX7_doughsWithoutRound) (maxL := 3) (ret := (some .int)) (by decide) rfl (Nat.le_of_ble_eq_true rfl) ?_
  intro p e s m args below meth c A ls ⟨hx, hb, hr, hml, hown, hts, hlk⟩ hA hG hw hl
  have hown : s.vm.findClass RX7 = some m.cls := hown
  have hl : lv_has ls 3 [(0, .ref (E.a 21))] := hl
  have hk31 := hts (.fieldLink RX7 31 "OvenRound$Plan" "doughs" "LOvenRound$Doughs;") (by decide +kernel)
  have hiX7 : ∀ w ∈ wsX70, w ∈ wsX7_doughsWithoutRound := by decide +kernel
  have hk39 := hts (.fieldLink RX7 39 "OvenRound$Doughs" "count" "I") (by decide +kernel)
  have hiX2 : ∀ w ∈ wsX20, w ∈ wsX7_doughsWithoutRound := by decide +kernel
  have hk18 := hts (.fieldLink RX7 18 "OvenRound$Plan" "round" "[I") (by decide +kernel)
  have h4 : ∀ (n : Nat) (a1 : Int32) (a2 : Int32) (σ : xSt) (H : Heap) (locs : List Loc) (ls : Array Slot), xw E A s.heap s σ H locs → lv_has ls 3 [(0, .ref (E.a 21)), (1, .int a1), (2, .int a2)] → fX7_doughsWithoutRound_c4 n a1 a2 σ = some (o1, o2) → W p l e rmX7_doughsWithoutRound s m args below meth c H locs 0 0 (MQ below (xQi E A o1 o2) args s 0 0 A) (F0 m 4 ls []) := by
    intro n4
    induction n4 with
    | zero => intro a1 a2 σ H locs ls hw hl hf; exact nomatch hf
    | succ n4 ih4 =>
      intro a1 a2 σ H locs ls hw hl hf
      rw [fX7_doughsWithoutRound_c4_s] at hf
      refine lv_iload_n hx hb dX7_doughsWithoutRound_4 rfl (lv_at hl 2 rfl) ?_
      refine lv_aload_n hx hb dX7_doughsWithoutRound_5 rfl (lv_at hl 0 rfl) ?_
      refine x_getr hx hb hw (cX21 hE) (own := RX7) (ref := RX7) (C := RX7) (T := TX7) (N := 8) hts hiX7 hown rfl 1 (by decide) hk31 (fun _ h9 => h9) rfl dX7_doughsWithoutRound_6 ?_
      refine x_geti hx hb hw (cX12 hE) (own := RX7) (ref := RX2) (C := RX2) (T := TX2) (N := 8) hts hiX2 hown rfl 7 (by decide) hk39 (fun _ h9 => h9) rfl dX7_doughsWithoutRound_9 ?_
      refine lv_icmp_ge (tgt := 42) hx hb dX7_doughsWithoutRound_12 (by decide) (fun c12 => ?_) (fun c12 => ?_)
      · replace hf := xif_pos c12 hf
        refine lv_iload_n hx hb dX7_doughsWithoutRound_42 rfl (lv_at hl 1 rfl) ?_
        exact x_iret hx hb hr hlk hw hf dX7_doughsWithoutRound_43
      · replace hf := xif_neg c12 hf
        refine lv_aload_n hx hb dX7_doughsWithoutRound_15 rfl (lv_at hl 0 rfl) ?_
        refine lv_iload_n hx hb dX7_doughsWithoutRound_16 rfl (lv_at hl 2 rfl) ?_
        obtain ⟨r1, σ2, hcl, hf⟩ := xc2_f hf
        refine x_calli (va_runV (As := [.int a2]) (rest := []) ⟨hx, hb, hml, hown, hts⟩ (mX7_isInPlan hE a2 σ r1 σ2 hcl H.size) (cwV 1 hts gX7_doughsWithoutRound_X7_isInPlan rfl rfl rfl (by decide +kernel) ⟨Nat.le_of_ble_eq_true rfl, Nat.le_of_ble_eq_true rfl⟩) (x_preV _ hw hA hG (cX21 hE) rfl) rfl rfl hl.1 rfl (lv_room (Nat.le_of_ble_eq_true rfl)) dX7_doughsWithoutRound_17 ⟨Nat.le_of_ble_eq_true rfl, Nat.le_of_ble_eq_true rfl⟩) hw hA (fun H locs hw => ?_)
        clear hcl
        refine lv_if_eq (tgt := 36) hx hb dX7_doughsWithoutRound_20 (by decide) (fun c20 => ?_) (fun c20 => ?_)
        · replace hf := xif_pos c20 hf
          obtain ⟨v3, ex⟩ : ∃ y : Int32, y = (a2 + 1) := ⟨_, rfl⟩
          replace hf := xl_f hf v3 ex
          refine lv_iinc (v := v3) (lv' := [(2, .int v3), (0, .ref (E.a 21)), (1, .int a1)]) hx hb dX7_doughsWithoutRound_36 hl (k := 2) rfl (by rw [ex]; rfl) (by decide) rfl (fun ls hl => ?_)
          clear ex
          refine lv_goto (tgt := 4) hx hb dX7_doughsWithoutRound_39 (by decide) ?_
          exact ih4 a1 v3 σ2 _ _ _ hw (lv_sub hl [1, 2, 0] rfl) hf
        · replace hf := xif_neg c20 hf
          refine lv_aload_n hx hb dX7_doughsWithoutRound_23 rfl (lv_at hl 0 rfl) ?_
          refine x_getr hx hb hw (cX21 hE) (own := RX7) (ref := RX7) (C := RX7) (T := TX7) (N := 8) hts hiX7 hown rfl 5 (by decide) hk18 (fun _ h9 => h9) rfl dX7_doughsWithoutRound_24 ?_
          refine lv_iload_n hx hb dX7_doughsWithoutRound_27 rfl (lv_at hl 2 rfl) ?_
          obtain ⟨hin, hf⟩ := xr_f hf
          refine x_iald hx hb hw (cX24 hE) hin dX7_doughsWithoutRound_28 ?_
          refine lv_topi (fun v4 ex => ?_)
          replace hf := hf v4 ex
          clear ex hin
          refine lv_iconst (v := (-1)) hx hb dX7_doughsWithoutRound_29 (by decide) ?_
          refine lv_icmp_ne (tgt := 36) hx hb dX7_doughsWithoutRound_30 (by decide) (fun c30 => ?_) (fun c30 => ?_)
          · replace hf := xif_neg c30 hf
            obtain ⟨v5, ex⟩ : ∃ y : Int32, y = (a2 + 1) := ⟨_, rfl⟩
            replace hf := xl_f hf v5 ex
            refine lv_iinc (v := v5) (lv' := [(2, .int v5), (0, .ref (E.a 21)), (1, .int a1)]) hx hb dX7_doughsWithoutRound_36 hl (k := 2) rfl (by rw [ex]; rfl) (by decide) rfl (fun ls hl => ?_)
            clear ex
            refine lv_goto (tgt := 4) hx hb dX7_doughsWithoutRound_39 (by decide) ?_
            exact ih4 a1 v5 σ2 _ _ _ hw (lv_sub hl [1, 2, 0] rfl) hf
          · replace hf := xif_pos c30 hf
            obtain ⟨v6, ex⟩ : ∃ y : Int32, y = (a1 + 1) := ⟨_, rfl⟩
            replace hf := xl_f hf v6 ex
            refine lv_iinc (v := v6) (lv' := [(1, .int v6), (0, .ref (E.a 21)), (2, .int a2)]) hx hb dX7_doughsWithoutRound_33 hl (k := 1) rfl (by rw [ex]; rfl) (by decide) rfl (fun ls hl => ?_)
            clear ex
            obtain ⟨v7, ex⟩ : ∃ y : Int32, y = (a2 + 1) := ⟨_, rfl⟩
            replace hf := xl_f hf v7 ex
            refine lv_iinc (v := v7) (lv' := [(2, .int v7), (1, .int v6), (0, .ref (E.a 21))]) hx hb dX7_doughsWithoutRound_36 hl (k := 2) rfl (by rw [ex]; rfl) (by decide) rfl (fun ls hl => ?_)
            clear ex
            refine lv_goto (tgt := 4) hx hb dX7_doughsWithoutRound_39 (by decide) ?_
            exact ih4 v6 v7 σ2 _ _ _ hw (lv_sub hl [2, 1, 0] rfl) hf
  refine lv_iconst (v := 0) hx hb dX7_doughsWithoutRound_0 (by decide) ?_
  refine lv_istore_n (lv' := [(1, .int 0), (0, .ref (E.a 21))]) hx hb dX7_doughsWithoutRound_1 rfl hl (by decide) rfl (fun ls hl => ?_)
  refine lv_iconst (v := 0) hx hb dX7_doughsWithoutRound_2 (by decide) ?_
  refine lv_istore_n (lv' := [(2, .int 0), (1, .int 0), (0, .ref (E.a 21))]) hx hb dX7_doughsWithoutRound_3 rfl hl (by decide) rfl (fun ls hl => ?_)
  exact h4 xFU 0 0 σ _ _ _ hw (lv_sub hl [2, 1, 0] rfl) hf

def fX7_earliestFree_c2 : Nat → Int32 → Int32 → xSt → Option (Int32 × xSt)
  | 0 => fun _ _ _ => none
  | n + 1 => fun a1 a2 σ => (if 40 ≤ a2 then some ((-1), σ) else (xr σ 26 40 a2 fun v1 => (if (σ 20 2) ≤ v1 then (xl (a2 + 1) fun v2 => fX7_earliestFree_c2 n a1 v2 σ) else (xc2 (fX7_beginOf a2 σ) fun r3 σ4 => (xc2 (fX7_canBegin a1 r3 σ4) fun r5 σ6 => (if r5 = 0 then (xl (a2 + 1) fun v7 => fX7_earliestFree_c2 n a1 v7 σ6) else some (a2, σ6)))))))
theorem fX7_earliestFree_c2_s (n : Nat) (a1 : Int32) (a2 : Int32) (σ : xSt) : fX7_earliestFree_c2 (n + 1) a1 a2 σ = ((if 40 ≤ a2 then some ((-1), σ) else (xr σ 26 40 a2 fun v1 => (if (σ 20 2) ≤ v1 then (xl (a2 + 1) fun v2 => fX7_earliestFree_c2 n a1 v2 σ) else (xc2 (fX7_beginOf a2 σ) fun r3 σ4 => (xc2 (fX7_canBegin a1 r3 σ4) fun r5 σ6 => (if r5 = 0 then (xl (a2 + 1) fun v7 => fX7_earliestFree_c2 n a1 v7 σ6) else some (a2, σ6))))))) : Option (Int32 × xSt)) := rfl
def fX7_earliestFree (p0 : Int32) (σ : xSt) : Option (Int32 × xSt) := fX7_earliestFree_c2 xFU p0 0 σ
abbrev rmX7_earliestFree : Room := { frames := 1, cells := 0, slots := 0, locals := 22 }
set_option maxRecDepth 100000 in
set_option maxHeartbeats 4000000 in
theorem mX7_earliestFree {l : Launch} {E : xE} (hE : E.sh = shX) (p0 : Int32) (σ : xSt) (o1 : Int32) (o2 : xSt) (hf : fX7_earliestFree p0 σ = some (o1, o2)) : xMi l yX7_earliestFree wsX7_earliestFree rmX7_earliestFree E [.ref (E.a 21), .int p0] σ o1 o2 := by
  unfold fX7_earliestFree at hf
  refine xMi_of (cc := cX7_earliestFree) (maxL := 3) (ret := (some .int)) (by decide) rfl (Nat.le_of_ble_eq_true rfl) ?_
  intro p e s m args below meth c A ls ⟨hx, hb, hr, hml, hown, hts, hlk⟩ hA hG hw hl
  have hown : s.vm.findClass RX7 = some m.cls := hown
  have hl : lv_has ls 3 [(0, .ref (E.a 21)), (1, .int p0)] := hl
  have hk24 := hts (.fieldLink RX7 24 "OvenRound$Plan" "taken" "[I") (by decide +kernel)
  have hiX7 : ∀ w ∈ wsX70, w ∈ wsX7_earliestFree := by decide +kernel
  have hk35 := hts (.fieldLink RX7 35 "OvenRound$Plan" "oven" "LOvenRound$Oven;") (by decide +kernel)
  have hk65 := hts (.fieldLink RX7 65 "OvenRound$Oven" "decks" "I") (by decide +kernel)
  have hiX5 : ∀ w ∈ wsX50, w ∈ wsX7_earliestFree := by decide +kernel
  have h2 : ∀ (n : Nat) (a1 : Int32) (a2 : Int32) (σ : xSt) (H : Heap) (locs : List Loc) (ls : Array Slot), xw E A s.heap s σ H locs → lv_has ls 3 [(0, .ref (E.a 21)), (1, .int a1), (2, .int a2)] → fX7_earliestFree_c2 n a1 a2 σ = some (o1, o2) → W p l e rmX7_earliestFree s m args below meth c H locs 0 0 (MQ below (xQi E A o1 o2) args s 0 0 A) (F0 m 2 ls []) := by
    intro n2
    induction n2 with
    | zero => intro a1 a2 σ H locs ls hw hl hf; exact nomatch hf
    | succ n2 ih2 =>
      intro a1 a2 σ H locs ls hw hl hf
      rw [fX7_earliestFree_c2_s] at hf
      refine lv_iload_n hx hb dX7_earliestFree_2 rfl (lv_at hl 2 rfl) ?_
      refine lv_bipush (v := 40) hx hb dX7_earliestFree_3 (by decide) ?_
      refine lv_icmp_ge (tgt := 45) hx hb dX7_earliestFree_5 (by decide) (fun c5 => ?_) (fun c5 => ?_)
      · replace hf := xif_pos c5 hf
        refine lv_iconst (v := (-1)) hx hb dX7_earliestFree_45 (by decide) ?_
        exact x_iret hx hb hr hlk hw hf dX7_earliestFree_46
      · replace hf := xif_neg c5 hf
        refine lv_aload_n hx hb dX7_earliestFree_8 rfl (lv_at hl 0 rfl) ?_
        refine x_getr hx hb hw (cX21 hE) (own := RX7) (ref := RX7) (C := RX7) (T := TX7) (N := 8) hts hiX7 hown rfl 7 (by decide) hk24 (fun _ h9 => h9) rfl dX7_earliestFree_9 ?_
        refine lv_iload_n hx hb dX7_earliestFree_12 rfl (lv_at hl 2 rfl) ?_
        obtain ⟨hin, hf⟩ := xr_f hf
        refine x_iald hx hb hw (cX26 hE) hin dX7_earliestFree_13 ?_
        refine lv_topi (fun v1 ex => ?_)
        replace hf := hf v1 ex
        clear ex hin
        refine lv_aload_n hx hb dX7_earliestFree_14 rfl (lv_at hl 0 rfl) ?_
        refine x_getr hx hb hw (cX21 hE) (own := RX7) (ref := RX7) (C := RX7) (T := TX7) (N := 8) hts hiX7 hown rfl 2 (by decide) hk35 (fun _ h9 => h9) rfl dX7_earliestFree_15 ?_
        refine x_geti hx hb hw (cX20 hE) (own := RX7) (ref := RX5) (C := RX5) (T := TX5) (N := 5) hts hiX5 hown rfl 2 (by decide) hk65 (fun _ h9 => h9) rfl dX7_earliestFree_18 ?_
        refine lv_icmp_ge (tgt := 39) hx hb dX7_earliestFree_21 (by decide) (fun c21 => ?_) (fun c21 => ?_)
        · replace hf := xif_pos c21 hf
          obtain ⟨v2, ex⟩ : ∃ y : Int32, y = (a2 + 1) := ⟨_, rfl⟩
          replace hf := xl_f hf v2 ex
          refine lv_iinc (v := v2) (lv' := [(2, .int v2), (0, .ref (E.a 21)), (1, .int a1)]) hx hb dX7_earliestFree_39 hl (k := 2) rfl (by rw [ex]; rfl) (by decide) rfl (fun ls hl => ?_)
          clear ex
          refine lv_goto (tgt := 2) hx hb dX7_earliestFree_42 (by decide) ?_
          exact ih2 a1 v2 σ _ _ _ hw (lv_sub hl [1, 2, 0] rfl) hf
        · replace hf := xif_neg c21 hf
          refine lv_aload_n hx hb dX7_earliestFree_24 rfl (lv_at hl 0 rfl) ?_
          refine lv_iload_n hx hb dX7_earliestFree_25 rfl (lv_at hl 1 rfl) ?_
          refine lv_aload_n hx hb dX7_earliestFree_26 rfl (lv_at hl 0 rfl) ?_
          refine lv_iload_n hx hb dX7_earliestFree_27 rfl (lv_at hl 2 rfl) ?_
          obtain ⟨r3, σ4, hcl, hf⟩ := xc2_f hf
          refine x_calli (va_runV (As := [.int a2]) (rest := [.int a1, .ref (E.a 21)]) ⟨hx, hb, hml, hown, hts⟩ (mX7_beginOf hE a2 σ r3 σ4 hcl H.size) (cwV 1 hts gX7_earliestFree_X7_beginOf rfl rfl rfl (by decide +kernel) ⟨Nat.le_of_ble_eq_true rfl, Nat.le_of_ble_eq_true rfl⟩) (x_preV _ hw hA hG (cX21 hE) rfl) rfl rfl hl.1 rfl (lv_room (Nat.le_of_ble_eq_true rfl)) dX7_earliestFree_28 ⟨Nat.le_of_ble_eq_true rfl, Nat.le_of_ble_eq_true rfl⟩) hw hA (fun H locs hw => ?_)
          clear hcl
          obtain ⟨r5, σ6, hcl, hf⟩ := xc2_f hf
          refine x_calli (va_runV (As := [.int a1, .int r3]) (rest := []) ⟨hx, hb, hml, hown, hts⟩ (mX7_canBegin hE a1 r3 σ4 r5 σ6 hcl H.size) (cwV 2 hts gX7_earliestFree_X7_canBegin rfl rfl rfl (by decide +kernel) ⟨Nat.le_of_ble_eq_true rfl, Nat.le_of_ble_eq_true rfl⟩) (x_preV _ hw hA hG (cX21 hE) rfl) rfl rfl hl.1 rfl (lv_room (Nat.le_of_ble_eq_true rfl)) dX7_earliestFree_31 ⟨Nat.le_of_ble_eq_true rfl, Nat.le_of_ble_eq_true rfl⟩) hw hA (fun H locs hw => ?_)
          clear hcl
          refine lv_if_eq (tgt := 39) hx hb dX7_earliestFree_34 (by decide) (fun c34 => ?_) (fun c34 => ?_)
          · replace hf := xif_pos c34 hf
            obtain ⟨v7, ex⟩ : ∃ y : Int32, y = (a2 + 1) := ⟨_, rfl⟩
            replace hf := xl_f hf v7 ex
            refine lv_iinc (v := v7) (lv' := [(2, .int v7), (0, .ref (E.a 21)), (1, .int a1)]) hx hb dX7_earliestFree_39 hl (k := 2) rfl (by rw [ex]; rfl) (by decide) rfl (fun ls hl => ?_)
            clear ex
            refine lv_goto (tgt := 2) hx hb dX7_earliestFree_42 (by decide) ?_
            exact ih2 a1 v7 σ6 _ _ _ hw (lv_sub hl [1, 2, 0] rfl) hf
          · replace hf := xif_neg c34 hf
            refine lv_iload_n hx hb dX7_earliestFree_37 rfl (lv_at hl 2 rfl) ?_
            exact x_iret hx hb hr hlk hw hf dX7_earliestFree_38
  refine lv_iconst (v := 0) hx hb dX7_earliestFree_0 (by decide) ?_
  refine lv_istore_n (lv' := [(2, .int 0), (0, .ref (E.a 21)), (1, .int p0)]) hx hb dX7_earliestFree_1 rfl hl (by decide) rfl (fun ls hl => ?_)
  exact h2 xFU p0 0 σ _ _ _ hw (lv_sub hl [1, 2, 0] rfl) hf

def fX7_allGetRounds_c10 : Nat → Int32 → Int32 → xSt → Option (Int32 × xSt)
  | 0 => fun _ _ _ => none
  | n + 1 => fun a1 a2 σ => (if a1 ≤ a2 then some (1, σ) else (xr σ 25 20 a2 fun v3 => (xc2 (fX7_earliestFree v3 σ) fun r4 σ5 => (if r4 = (-1) then some (0, σ5) else (xr σ5 26 40 r4 fun v6 => (xs σ5 26 40 r4 (v6 + 1) fun σ7 => (xl (a2 + 1) fun v8 => fX7_allGetRounds_c10 n a1 v8 σ7)))))))
theorem fX7_allGetRounds_c10_s (n : Nat) (a1 : Int32) (a2 : Int32) (σ : xSt) : fX7_allGetRounds_c10 (n + 1) a1 a2 σ = ((if a1 ≤ a2 then some (1, σ) else (xr σ 25 20 a2 fun v3 => (xc2 (fX7_earliestFree v3 σ) fun r4 σ5 => (if r4 = (-1) then some (0, σ5) else (xr σ5 26 40 r4 fun v6 => (xs σ5 26 40 r4 (v6 + 1) fun σ7 => (xl (a2 + 1) fun v8 => fX7_allGetRounds_c10 n a1 v8 σ7))))))) : Option (Int32 × xSt)) := rfl
def fX7_allGetRounds (p0 : Int32) (σ : xSt) : Option (Int32 × xSt) := (xc (fJ7_fill_53178 26 40 0 σ) fun σ2 => fX7_allGetRounds_c10 xFU p0 0 σ2)
abbrev rmX7_allGetRounds : Room := { frames := 2, cells := 0, slots := 0, locals := 44 }
set_option maxRecDepth 100000 in
set_option maxHeartbeats 4000000 in
theorem mX7_allGetRounds {l : Launch} {E : xE} (hE : E.sh = shX) (p0 : Int32) (σ : xSt) (o1 : Int32) (o2 : xSt) (hf : fX7_allGetRounds p0 σ = some (o1, o2)) : xMi l yX7_allGetRounds wsX7_allGetRounds rmX7_allGetRounds E [.ref (E.a 21), .int p0] σ o1 o2 := by
  unfold fX7_allGetRounds at hf
  refine xMi_of (cc := cX7_allGetRounds) (maxL := 4) (ret := (some .boolean)) (by decide) rfl (Nat.le_of_ble_eq_true rfl) ?_
  intro p e s m args below meth c A ls ⟨hx, hb, hr, hml, hown, hts, hlk⟩ hA hG hw hl
  have hown : s.vm.findClass RX7 = some m.cls := hown
  have hl : lv_has ls 4 [(0, .ref (E.a 21)), (1, .int p0)] := hl
  have hk24 := hts (.fieldLink RX7 24 "OvenRound$Plan" "taken" "[I") (by decide +kernel)
  have hiX7 : ∀ w ∈ wsX70, w ∈ wsX7_allGetRounds := by decide +kernel
  have hk21 := hts (.fieldLink RX7 21 "OvenRound$Plan" "order" "[I") (by decide +kernel)
  have h10 : ∀ (n : Nat) (a1 : Int32) (a2 : Int32) (σ : xSt) (H : Heap) (locs : List Loc) (ls : Array Slot), xw E A s.heap s σ H locs → lv_has ls 4 [(0, .ref (E.a 21)), (1, .int a1), (2, .int a2)] → fX7_allGetRounds_c10 n a1 a2 σ = some (o1, o2) → W p l e rmX7_allGetRounds s m args below meth c H locs 0 0 (MQ below (xQi E A o1 o2) args s 0 0 A) (F0 m 10 ls []) := by
    intro n10
    induction n10 with
    | zero => intro a1 a2 σ H locs ls hw hl hf; exact nomatch hf
    | succ n10 ih10 =>
      intro a1 a2 σ H locs ls hw hl hf
      rw [fX7_allGetRounds_c10_s] at hf
      refine lv_iload_n hx hb dX7_allGetRounds_10 rfl (lv_at hl 2 rfl) ?_
      refine lv_iload_n hx hb dX7_allGetRounds_11 rfl (lv_at hl 1 rfl) ?_
      refine lv_icmp_ge (tgt := 49) hx hb dX7_allGetRounds_12 (by decide) (fun c12 => ?_) (fun c12 => ?_)
      · replace hf := xif_pos c12 hf
        refine lv_iconst (v := 1) hx hb dX7_allGetRounds_49 (by decide) ?_
        exact x_zretc hx hb hr hlk hw (by decide) hf dX7_allGetRounds_50
      · replace hf := xif_neg c12 hf
        refine lv_aload_n hx hb dX7_allGetRounds_15 rfl (lv_at hl 0 rfl) ?_
        refine lv_aload_n hx hb dX7_allGetRounds_16 rfl (lv_at hl 0 rfl) ?_
        refine x_getr hx hb hw (cX21 hE) (own := RX7) (ref := RX7) (C := RX7) (T := TX7) (N := 8) hts hiX7 hown rfl 6 (by decide) hk21 (fun _ h9 => h9) rfl dX7_allGetRounds_17 ?_
        refine lv_iload_n hx hb dX7_allGetRounds_20 rfl (lv_at hl 2 rfl) ?_
        obtain ⟨hin, hf⟩ := xr_f hf
        refine x_iald hx hb hw (cX25 hE) hin dX7_allGetRounds_21 ?_
        refine lv_topi (fun v3 ex => ?_)
        replace hf := hf v3 ex
        clear ex hin
        obtain ⟨r4, σ5, hcl, hf⟩ := xc2_f hf
        refine x_calli (va_runV (As := [.int v3]) (rest := []) ⟨hx, hb, hml, hown, hts⟩ (mX7_earliestFree hE v3 σ r4 σ5 hcl H.size) (cwV 1 hts gX7_allGetRounds_X7_earliestFree rfl rfl rfl (by decide +kernel) ⟨Nat.le_of_ble_eq_true rfl, Nat.le_of_ble_eq_true rfl⟩) (x_preV _ hw hA hG (cX21 hE) rfl) rfl rfl hl.1 rfl (lv_room (Nat.le_of_ble_eq_true rfl)) dX7_allGetRounds_22 ⟨Nat.le_of_ble_eq_true rfl, Nat.le_of_ble_eq_true rfl⟩) hw hA (fun H locs hw => ?_)
        clear hcl
        refine lv_istore_n (lv' := [(3, .int r4), (0, .ref (E.a 21)), (1, .int a1), (2, .int a2)]) hx hb dX7_allGetRounds_25 rfl hl (by decide) rfl (fun ls hl => ?_)
        refine lv_iload_n hx hb dX7_allGetRounds_26 rfl (lv_at hl 0 rfl) ?_
        refine lv_iconst (v := (-1)) hx hb dX7_allGetRounds_27 (by decide) ?_
        refine lv_icmp_ne (tgt := 33) hx hb dX7_allGetRounds_28 (by decide) (fun c28 => ?_) (fun c28 => ?_)
        · replace hf := xif_neg c28 hf
          refine lv_aload_n hx hb dX7_allGetRounds_33 rfl (lv_at hl 1 rfl) ?_
          refine x_getr hx hb hw (cX21 hE) (own := RX7) (ref := RX7) (C := RX7) (T := TX7) (N := 8) hts hiX7 hown rfl 7 (by decide) hk24 (fun _ h9 => h9) rfl dX7_allGetRounds_34 ?_
          refine lv_iload_n hx hb dX7_allGetRounds_37 rfl (lv_at hl 0 rfl) ?_
          refine lv_dup2_11 hx hb dX7_allGetRounds_38 rfl rfl ?_
          obtain ⟨hin, hf⟩ := xr_f hf
          refine x_iald hx hb hw (cX26 hE) hin dX7_allGetRounds_39 ?_
          refine lv_topi (fun v6 ex => ?_)
          replace hf := hf v6 ex
          clear ex hin
          refine lv_iconst (v := 1) hx hb dX7_allGetRounds_40 (by decide) ?_
          refine lv_iadd hx hb dX7_allGetRounds_41 ?_
          obtain ⟨hin, hf⟩ := xs_f hf
          refine x_iast hx hb hw (cX26 hE) hin dX7_allGetRounds_42 (fun σ7 H locs ex hw => ?_)
          replace hf := hf σ7 ex
          clear ex hin
          obtain ⟨v8, ex⟩ : ∃ y : Int32, y = (a2 + 1) := ⟨_, rfl⟩
          replace hf := xl_f hf v8 ex
          refine lv_iinc (v := v8) (lv' := [(2, .int v8), (3, .int r4), (0, .ref (E.a 21)), (1, .int a1)]) hx hb dX7_allGetRounds_43 hl (k := 3) rfl (by rw [ex]; rfl) (by decide) rfl (fun ls hl => ?_)
          clear ex
          refine lv_goto (tgt := 10) hx hb dX7_allGetRounds_46 (by decide) ?_
          exact ih10 a1 v8 σ7 _ _ _ hw (lv_sub hl [2, 3, 0] rfl) hf
        · replace hf := xif_pos c28 hf
          refine lv_iconst (v := 0) hx hb dX7_allGetRounds_31 (by decide) ?_
          exact x_zretc hx hb hr hlk hw (by decide) hf dX7_allGetRounds_32
  refine lv_aload_n hx hb dX7_allGetRounds_0 rfl (lv_at hl 0 rfl) ?_
  refine x_getr hx hb hw (cX21 hE) (own := RX7) (ref := RX7) (C := RX7) (T := TX7) (N := 8) hts hiX7 hown rfl 7 (by decide) hk24 (fun _ h9 => h9) rfl dX7_allGetRounds_1 ?_
  refine lv_iconst (v := 0) hx hb dX7_allGetRounds_4 (by decide) ?_
  obtain ⟨σ2, hcl, hf⟩ := xc_e hf
  refine x_callv (va_runS (As := [.ref (E.a 26), .int 0]) (rest := []) ⟨hx, hb, hml, hown, hts⟩ (mJ7_fill_53178 26 40 (cX26 hE) 0 σ σ2 hcl s.heap.size) (va_cwS 2 hts gX7_allGetRounds_J7_fill_53178 rfl rfl rfl (by decide +kernel) ⟨Nat.le_of_ble_eq_true rfl, Nat.le_of_ble_eq_true rfl⟩) (x_preS _ hw hA hG) rfl rfl hl.1 rfl (lv_room (Nat.le_of_ble_eq_true rfl)) dX7_allGetRounds_5 ⟨Nat.le_of_ble_eq_true rfl, Nat.le_of_ble_eq_true rfl⟩) hw hA (fun H locs hw => ?_)
  clear hcl
  refine lv_iconst (v := 0) hx hb dX7_allGetRounds_8 (by decide) ?_
  refine lv_istore_n (lv' := [(2, .int 0), (0, .ref (E.a 21)), (1, .int p0)]) hx hb dX7_allGetRounds_9 rfl hl (by decide) rfl (fun ls hl => ?_)
  exact h10 xFU p0 0 σ2 _ _ _ hw (lv_sub hl [1, 2, 0] rfl) hf

def fX7_leavesOneInVain_c65 : Nat → Int32 → Int32 → xSt → Option (Int32 × xSt)
  | 0 => fun _ _ _ => none
  | n + 1 => fun a1 a3 σ => (if 720 ≤ a3 then some (0, σ) else (xc2 (fX7_allGetRounds a1 σ) fun r13 σ14 => (if r13 = 0 then (xc2 (fX11_makeNextOrder 25 20 a1 σ14) fun r15 σ16 => (if r15 = 0 then some (0, σ16) else (xl (a3 + 1) fun v17 => fX7_leavesOneInVain_c65 n a1 v17 σ16))) else some (1, σ14))))
theorem fX7_leavesOneInVain_c65_s (n : Nat) (a1 : Int32) (a3 : Int32) (σ : xSt) : fX7_leavesOneInVain_c65 (n + 1) a1 a3 σ = ((if 720 ≤ a3 then some (0, σ) else (xc2 (fX7_allGetRounds a1 σ) fun r13 σ14 => (if r13 = 0 then (xc2 (fX11_makeNextOrder 25 20 a1 σ14) fun r15 σ16 => (if r15 = 0 then some (0, σ16) else (xl (a3 + 1) fun v17 => fX7_leavesOneInVain_c65 n a1 v17 σ16))) else some (1, σ14)))) : Option (Int32 × xSt)) := rfl
def fX7_leavesOneInVain_c28 : Nat → Int32 → Int32 → Int32 → xSt → Option (Int32 × xSt)
  | 0 => fun _ _ _ _ => none
  | n + 1 => fun a1 a2 a3 σ => (if (σ 12 7) ≤ a3 then fX7_leavesOneInVain_c65 xFU a1 0 σ else (xc2 (fX7_isInPlan a3 σ) fun r7 σ8 => (if r7 = 0 then (xl (a3 + 1) fun v9 => fX7_leavesOneInVain_c28 n a1 a2 v9 σ8) else (xs σ8 25 20 a2 a3 fun σ10 => (xl (a2 + 1) fun v11 => (xl (a3 + 1) fun v12 => fX7_leavesOneInVain_c28 n a1 v11 v12 σ10))))))
theorem fX7_leavesOneInVain_c28_s (n : Nat) (a1 : Int32) (a2 : Int32) (a3 : Int32) (σ : xSt) : fX7_leavesOneInVain_c28 (n + 1) a1 a2 a3 σ = ((if (σ 12 7) ≤ a3 then fX7_leavesOneInVain_c65 xFU a1 0 σ else (xc2 (fX7_isInPlan a3 σ) fun r7 σ8 => (if r7 = 0 then (xl (a3 + 1) fun v9 => fX7_leavesOneInVain_c28 n a1 a2 v9 σ8) else (xs σ8 25 20 a2 a3 fun σ10 => (xl (a2 + 1) fun v11 => (xl (a3 + 1) fun v12 => fX7_leavesOneInVain_c28 n a1 v11 v12 σ10)))))) : Option (Int32 × xSt)) := rfl
def fX7_leavesOneInVain (σ : xSt) : Option (Int32 × xSt) := (xc (fX7_make σ) fun σ2 => (xc2 (fX7_doughsInPlan σ2) fun r3 σ4 => (if 6 < r3 then some (0, σ4) else (xc2 (fX7_doughsWithoutRound σ4) fun r5 σ6 => (if r5 = 0 then some (0, σ6) else fX7_leavesOneInVain_c28 xFU r3 0 0 σ6)))))
abbrev rmX7_leavesOneInVain : Room := { frames := 5, cells := 0, slots := 0, locals := 109 }
set_option maxRecDepth 100000 in
set_option maxHeartbeats 4000000 in
theorem mX7_leavesOneInVain {l : Launch} {E : xE} (hE : E.sh = shX) (σ : xSt) (o1 : Int32) (o2 : xSt) (hf : fX7_leavesOneInVain σ = some (o1, o2)) : xMi l yX7_leavesOneInVain wsX7_leavesOneInVain rmX7_leavesOneInVain E [.ref (E.a 21)] σ o1 o2 := by
  unfold fX7_leavesOneInVain at hf
  refine xMi_of (cc := cX7_leavesOneInVain) (maxL := 4) (ret := (some .boolean)) (by decide) rfl (Nat.le_of_ble_eq_true rfl) ?_
  intro p e s m args below meth c A ls ⟨hx, hb, hr, hml, hown, hts, hlk⟩ hA hG hw hl
  have hown : s.vm.findClass RX7 = some m.cls := hown
  have hl : lv_has ls 4 [(0, .ref (E.a 21))] := hl
  have hk31 := hts (.fieldLink RX7 31 "OvenRound$Plan" "doughs" "LOvenRound$Doughs;") (by decide +kernel)
  have hiX7 : ∀ w ∈ wsX70, w ∈ wsX7_leavesOneInVain := by decide +kernel
  have hk39 := hts (.fieldLink RX7 39 "OvenRound$Doughs" "count" "I") (by decide +kernel)
  have hiX2 : ∀ w ∈ wsX20, w ∈ wsX7_leavesOneInVain := by decide +kernel
  have hk21 := hts (.fieldLink RX7 21 "OvenRound$Plan" "order" "[I") (by decide +kernel)
  have h65 : ∀ (n : Nat) (a1 : Int32) (a3 : Int32) (σ : xSt) (H : Heap) (locs : List Loc) (ls : Array Slot), xw E A s.heap s σ H locs → lv_has ls 4 [(0, .ref (E.a 21)), (1, .int a1), (3, .int a3)] → fX7_leavesOneInVain_c65 n a1 a3 σ = some (o1, o2) → W p l e rmX7_leavesOneInVain s m args below meth c H locs 0 0 (MQ below (xQi E A o1 o2) args s 0 0 A) (F0 m 65 ls []) := by
    intro n65
    induction n65 with
    | zero => intro a1 a3 σ H locs ls hw hl hf; exact nomatch hf
    | succ n65 ih65 =>
      intro a1 a3 σ H locs ls hw hl hf
      rw [fX7_leavesOneInVain_c65_s] at hf
      refine lv_iload_n hx hb dX7_leavesOneInVain_65 rfl (lv_at hl 2 rfl) ?_
      refine lv_sipush (v := 720) hx hb dX7_leavesOneInVain_66 (by decide) ?_
      refine lv_icmp_ge (tgt := 101) hx hb dX7_leavesOneInVain_69 (by decide) (fun c69 => ?_) (fun c69 => ?_)
      · replace hf := xif_pos c69 hf
        refine lv_iconst (v := 0) hx hb dX7_leavesOneInVain_101 (by decide) ?_
        exact x_zretc hx hb hr hlk hw (by decide) hf dX7_leavesOneInVain_102
      · replace hf := xif_neg c69 hf
        refine lv_aload_n hx hb dX7_leavesOneInVain_72 rfl (lv_at hl 0 rfl) ?_
        refine lv_iload_n hx hb dX7_leavesOneInVain_73 rfl (lv_at hl 1 rfl) ?_
        obtain ⟨r13, σ14, hcl, hf⟩ := xc2_f hf
        refine x_calli (va_runV (As := [.int a1]) (rest := []) ⟨hx, hb, hml, hown, hts⟩ (mX7_allGetRounds hE a1 σ r13 σ14 hcl H.size) (cwV 1 hts gX7_leavesOneInVain_X7_allGetRounds rfl rfl rfl (by decide +kernel) ⟨Nat.le_of_ble_eq_true rfl, Nat.le_of_ble_eq_true rfl⟩) (x_preV _ hw hA hG (cX21 hE) rfl) rfl rfl hl.1 rfl (lv_room (Nat.le_of_ble_eq_true rfl)) dX7_leavesOneInVain_74 ⟨Nat.le_of_ble_eq_true rfl, Nat.le_of_ble_eq_true rfl⟩) hw hA (fun H locs hw => ?_)
        clear hcl
        refine lv_if_eq (tgt := 82) hx hb dX7_leavesOneInVain_77 (by decide) (fun c77 => ?_) (fun c77 => ?_)
        · replace hf := xif_pos c77 hf
          refine lv_aload_n hx hb dX7_leavesOneInVain_82 rfl (lv_at hl 0 rfl) ?_
          refine x_getr hx hb hw (cX21 hE) (own := RX7) (ref := RX7) (C := RX7) (T := TX7) (N := 8) hts hiX7 hown rfl 6 (by decide) hk21 (fun _ h9 => h9) rfl dX7_leavesOneInVain_83 ?_
          refine lv_iload_n hx hb dX7_leavesOneInVain_86 rfl (lv_at hl 1 rfl) ?_
          obtain ⟨r15, σ16, hcl, hf⟩ := xc2_f hf
          refine x_calli (va_runSN (As := [.ref (E.a 25), .int a1]) (rest := []) ⟨hx, hb, hml, hown, hts⟩ (mX11_makeNextOrder hE 25 20 (cX25 hE) a1 σ14 r15 σ16 hcl H.size) ⟨va_cnB 2 hts gX7_leavesOneInVain_X11_makeNextOrder_n122 rfl rfl rfl (hG.1 (.methodLinkNest RX7 122 yX11_makeNextOrder RX11) (by decide +kernel)) (hts (.initialized RX11) (by decide +kernel)) (by decide +kernel) ⟨Nat.le_of_ble_eq_true rfl, Nat.le_of_ble_eq_true rfl⟩, hts (.static yX11_makeNextOrder) (by decide +kernel), trivial⟩ (x_preS _ hw hA hG) rfl rfl hl.1 rfl (lv_room (Nat.le_of_ble_eq_true rfl)) dX7_leavesOneInVain_87 ⟨Nat.le_of_ble_eq_true rfl, Nat.le_of_ble_eq_true rfl⟩) hw hA (fun H locs hw => ?_)
          clear hcl
          refine lv_if_ne (tgt := 95) hx hb dX7_leavesOneInVain_90 (by decide) (fun c90 => ?_) (fun c90 => ?_)
          · replace hf := xif_neg c90 hf
            obtain ⟨v17, ex⟩ : ∃ y : Int32, y = (a3 + 1) := ⟨_, rfl⟩
            replace hf := xl_f hf v17 ex
            refine lv_iinc (v := v17) (lv' := [(3, .int v17), (0, .ref (E.a 21)), (1, .int a1)]) hx hb dX7_leavesOneInVain_95 hl (k := 2) rfl (by rw [ex]; rfl) (by decide) rfl (fun ls hl => ?_)
            clear ex
            refine lv_goto (tgt := 65) hx hb dX7_leavesOneInVain_98 (by decide) ?_
            exact ih65 a1 v17 σ16 _ _ _ hw (lv_sub hl [1, 2, 0] rfl) hf
          · replace hf := xif_pos c90 hf
            refine lv_iconst (v := 0) hx hb dX7_leavesOneInVain_93 (by decide) ?_
            exact x_zretc hx hb hr hlk hw (by decide) hf dX7_leavesOneInVain_94
        · replace hf := xif_neg c77 hf
          refine lv_iconst (v := 1) hx hb dX7_leavesOneInVain_80 (by decide) ?_
          exact x_zretc hx hb hr hlk hw (by decide) hf dX7_leavesOneInVain_81
  have h28 : ∀ (n : Nat) (a1 : Int32) (a2 : Int32) (a3 : Int32) (σ : xSt) (H : Heap) (locs : List Loc) (ls : Array Slot), xw E A s.heap s σ H locs → lv_has ls 4 [(0, .ref (E.a 21)), (1, .int a1), (2, .int a2), (3, .int a3)] → fX7_leavesOneInVain_c28 n a1 a2 a3 σ = some (o1, o2) → W p l e rmX7_leavesOneInVain s m args below meth c H locs 0 0 (MQ below (xQi E A o1 o2) args s 0 0 A) (F0 m 28 ls []) := by
    intro n28
    induction n28 with
    | zero => intro a1 a2 a3 σ H locs ls hw hl hf; exact nomatch hf
    | succ n28 ih28 =>
      intro a1 a2 a3 σ H locs ls hw hl hf
      rw [fX7_leavesOneInVain_c28_s] at hf
      refine lv_iload_n hx hb dX7_leavesOneInVain_28 rfl (lv_at hl 3 rfl) ?_
      refine lv_aload_n hx hb dX7_leavesOneInVain_29 rfl (lv_at hl 0 rfl) ?_
      refine x_getr hx hb hw (cX21 hE) (own := RX7) (ref := RX7) (C := RX7) (T := TX7) (N := 8) hts hiX7 hown rfl 1 (by decide) hk31 (fun _ h9 => h9) rfl dX7_leavesOneInVain_30 ?_
      refine x_geti hx hb hw (cX12 hE) (own := RX7) (ref := RX2) (C := RX2) (T := TX2) (N := 8) hts hiX2 hown rfl 7 (by decide) hk39 (fun _ h9 => h9) rfl dX7_leavesOneInVain_33 ?_
      refine lv_icmp_ge (tgt := 63) hx hb dX7_leavesOneInVain_36 (by decide) (fun c36 => ?_) (fun c36 => ?_)
      · replace hf := xif_pos c36 hf
        refine lv_iconst (v := 0) hx hb dX7_leavesOneInVain_63 (by decide) ?_
        refine lv_istore_n (lv' := [(3, .int 0), (0, .ref (E.a 21)), (1, .int a1), (2, .int a2)]) hx hb dX7_leavesOneInVain_64 rfl hl (by decide) rfl (fun ls hl => ?_)
        exact h65 xFU a1 0 σ _ _ _ hw (lv_sub hl [1, 2, 0] rfl) hf
      · replace hf := xif_neg c36 hf
        refine lv_aload_n hx hb dX7_leavesOneInVain_39 rfl (lv_at hl 0 rfl) ?_
        refine lv_iload_n hx hb dX7_leavesOneInVain_40 rfl (lv_at hl 3 rfl) ?_
        obtain ⟨r7, σ8, hcl, hf⟩ := xc2_f hf
        refine x_calli (va_runV (As := [.int a3]) (rest := []) ⟨hx, hb, hml, hown, hts⟩ (mX7_isInPlan hE a3 σ r7 σ8 hcl H.size) (cwV 1 hts gX7_leavesOneInVain_X7_isInPlan rfl rfl rfl (by decide +kernel) ⟨Nat.le_of_ble_eq_true rfl, Nat.le_of_ble_eq_true rfl⟩) (x_preV _ hw hA hG (cX21 hE) rfl) rfl rfl hl.1 rfl (lv_room (Nat.le_of_ble_eq_true rfl)) dX7_leavesOneInVain_41 ⟨Nat.le_of_ble_eq_true rfl, Nat.le_of_ble_eq_true rfl⟩) hw hA (fun H locs hw => ?_)
        clear hcl
        refine lv_if_eq (tgt := 57) hx hb dX7_leavesOneInVain_44 (by decide) (fun c44 => ?_) (fun c44 => ?_)
        · replace hf := xif_pos c44 hf
          obtain ⟨v9, ex⟩ : ∃ y : Int32, y = (a3 + 1) := ⟨_, rfl⟩
          replace hf := xl_f hf v9 ex
          refine lv_iinc (v := v9) (lv' := [(3, .int v9), (0, .ref (E.a 21)), (1, .int a1), (2, .int a2)]) hx hb dX7_leavesOneInVain_57 hl (k := 3) rfl (by rw [ex]; rfl) (by decide) rfl (fun ls hl => ?_)
          clear ex
          refine lv_goto (tgt := 28) hx hb dX7_leavesOneInVain_60 (by decide) ?_
          exact ih28 a1 a2 v9 σ8 _ _ _ hw (lv_sub hl [1, 2, 3, 0] rfl) hf
        · replace hf := xif_neg c44 hf
          refine lv_aload_n hx hb dX7_leavesOneInVain_47 rfl (lv_at hl 0 rfl) ?_
          refine x_getr hx hb hw (cX21 hE) (own := RX7) (ref := RX7) (C := RX7) (T := TX7) (N := 8) hts hiX7 hown rfl 6 (by decide) hk21 (fun _ h9 => h9) rfl dX7_leavesOneInVain_48 ?_
          refine lv_iload_n hx hb dX7_leavesOneInVain_51 rfl (lv_at hl 2 rfl) ?_
          refine lv_iload_n hx hb dX7_leavesOneInVain_52 rfl (lv_at hl 3 rfl) ?_
          obtain ⟨hin, hf⟩ := xs_f hf
          refine x_iast hx hb hw (cX25 hE) hin dX7_leavesOneInVain_53 (fun σ10 H locs ex hw => ?_)
          replace hf := hf σ10 ex
          clear ex hin
          obtain ⟨v11, ex⟩ : ∃ y : Int32, y = (a2 + 1) := ⟨_, rfl⟩
          replace hf := xl_f hf v11 ex
          refine lv_iinc (v := v11) (lv' := [(2, .int v11), (0, .ref (E.a 21)), (1, .int a1), (3, .int a3)]) hx hb dX7_leavesOneInVain_54 hl (k := 2) rfl (by rw [ex]; rfl) (by decide) rfl (fun ls hl => ?_)
          clear ex
          obtain ⟨v12, ex⟩ : ∃ y : Int32, y = (a3 + 1) := ⟨_, rfl⟩
          replace hf := xl_f hf v12 ex
          refine lv_iinc (v := v12) (lv' := [(3, .int v12), (2, .int v11), (0, .ref (E.a 21)), (1, .int a1)]) hx hb dX7_leavesOneInVain_57 hl (k := 3) rfl (by rw [ex]; rfl) (by decide) rfl (fun ls hl => ?_)
          clear ex
          refine lv_goto (tgt := 28) hx hb dX7_leavesOneInVain_60 (by decide) ?_
          exact ih28 a1 v11 v12 σ10 _ _ _ hw (lv_sub hl [2, 3, 1, 0] rfl) hf
  refine lv_aload_n hx hb dX7_leavesOneInVain_0 rfl (lv_at hl 0 rfl) ?_
  obtain ⟨σ2, hcl, hf⟩ := xc_e hf
  refine x_callv (va_runV (As := []) (rest := []) ⟨hx, hb, hml, hown, hts⟩ (mX7_make hE σ σ2 hcl s.heap.size) (cwV 0 hts gX7_leavesOneInVain_X7_make rfl rfl rfl (by decide +kernel) ⟨Nat.le_of_ble_eq_true rfl, Nat.le_of_ble_eq_true rfl⟩) (x_preV _ hw hA hG (cX21 hE) rfl) rfl rfl hl.1 rfl (lv_room (Nat.le_of_ble_eq_true rfl)) dX7_leavesOneInVain_1 ⟨Nat.le_of_ble_eq_true rfl, Nat.le_of_ble_eq_true rfl⟩) hw hA (fun H locs hw => ?_)
  clear hcl
  refine lv_aload_n hx hb dX7_leavesOneInVain_4 rfl (lv_at hl 0 rfl) ?_
  obtain ⟨r3, σ4, hcl, hf⟩ := xc2_f hf
  refine x_calli (va_runV (As := []) (rest := []) ⟨hx, hb, hml, hown, hts⟩ (mX7_doughsInPlan hE σ2 r3 σ4 hcl H.size) (cwV 0 hts gX7_leavesOneInVain_X7_doughsInPlan rfl rfl rfl (by decide +kernel) ⟨Nat.le_of_ble_eq_true rfl, Nat.le_of_ble_eq_true rfl⟩) (x_preV _ hw hA hG (cX21 hE) rfl) rfl rfl hl.1 rfl (lv_room (Nat.le_of_ble_eq_true rfl)) dX7_leavesOneInVain_5 ⟨Nat.le_of_ble_eq_true rfl, Nat.le_of_ble_eq_true rfl⟩) hw hA (fun H locs hw => ?_)
  clear hcl
  refine lv_istore_n (lv' := [(1, .int r3), (0, .ref (E.a 21))]) hx hb dX7_leavesOneInVain_8 rfl hl (by decide) rfl (fun ls hl => ?_)
  refine lv_iload_n hx hb dX7_leavesOneInVain_9 rfl (lv_at hl 0 rfl) ?_
  refine lv_bipush (v := 6) hx hb dX7_leavesOneInVain_10 (by decide) ?_
  refine lv_icmp_gt (tgt := 22) hx hb dX7_leavesOneInVain_12 (by decide) (fun c12 => ?_) (fun c12 => ?_)
  · replace hf := xif_pos c12 hf
    refine lv_iconst (v := 0) hx hb dX7_leavesOneInVain_22 (by decide) ?_
    exact x_zretc hx hb hr hlk hw (by decide) hf dX7_leavesOneInVain_23
  · replace hf := xif_neg c12 hf
    refine lv_aload_n hx hb dX7_leavesOneInVain_15 rfl (lv_at hl 1 rfl) ?_
    obtain ⟨r5, σ6, hcl, hf⟩ := xc2_f hf
    refine x_calli (va_runV (As := []) (rest := []) ⟨hx, hb, hml, hown, hts⟩ (mX7_doughsWithoutRound hE σ4 r5 σ6 hcl H.size) (cwV 0 hts gX7_leavesOneInVain_X7_doughsWithoutRound rfl rfl rfl (by decide +kernel) ⟨Nat.le_of_ble_eq_true rfl, Nat.le_of_ble_eq_true rfl⟩) (x_preV _ hw hA hG (cX21 hE) rfl) rfl rfl hl.1 rfl (lv_room (Nat.le_of_ble_eq_true rfl)) dX7_leavesOneInVain_16 ⟨Nat.le_of_ble_eq_true rfl, Nat.le_of_ble_eq_true rfl⟩) hw hA (fun H locs hw => ?_)
    clear hcl
    refine lv_if_ne (tgt := 24) hx hb dX7_leavesOneInVain_19 (by decide) (fun c19 => ?_) (fun c19 => ?_)
    · replace hf := xif_neg c19 hf
      refine lv_iconst (v := 0) hx hb dX7_leavesOneInVain_24 (by decide) ?_
      refine lv_istore_n (lv' := [(2, .int 0), (1, .int r3), (0, .ref (E.a 21))]) hx hb dX7_leavesOneInVain_25 rfl hl (by decide) rfl (fun ls hl => ?_)
      refine lv_iconst (v := 0) hx hb dX7_leavesOneInVain_26 (by decide) ?_
      refine lv_istore_n (lv' := [(3, .int 0), (2, .int 0), (1, .int r3), (0, .ref (E.a 21))]) hx hb dX7_leavesOneInVain_27 rfl hl (by decide) rfl (fun ls hl => ?_)
      exact h28 xFU r3 0 0 σ6 _ _ _ hw (lv_sub hl [3, 2, 1, 0] rfl) hf
    · replace hf := xif_pos c19 hf
      refine lv_iconst (v := 0) hx hb dX7_leavesOneInVain_22 (by decide) ?_
      exact x_zretc hx hb hr hlk hw (by decide) hf dX7_leavesOneInVain_23

def fX8_isRipeWith (p0 : Int32) (p1 : Int32) (σ : xSt) : Option (Int32 × xSt) := (xr σ 6 6 p0 fun v1 => (xr σ 7 6 p0 fun v2 => (xc2 (fX11_isWithin p1 v1 v2 σ) fun r3 σ4 => xb r3 (some (r3, σ4)))))
abbrev rmX8_isRipeWith : Room := { frames := 1, cells := 0, slots := 0, locals := 22 }
set_option maxRecDepth 100000 in
set_option maxHeartbeats 4000000 in
theorem mX8_isRipeWith {l : Launch} {E : xE} (hE : E.sh = shX) (p0 : Int32) (p1 : Int32) (σ : xSt) (o1 : Int32) (o2 : xSt) (hf : fX8_isRipeWith p0 p1 σ = some (o1, o2)) : xMi l yX8_isRipeWith wsX8_isRipeWith rmX8_isRipeWith E [.ref (E.a 4), .int p0, .int p1] σ o1 o2 := by
  unfold fX8_isRipeWith at hf
  refine xMi_of (cc := cX8_isRipeWith) (maxL := 3) (ret := (some .boolean)) (by decide) rfl (Nat.le_of_ble_eq_true rfl) ?_
  intro p e s m args below meth c A ls ⟨hx, hb, hr, hml, hown, hts, hlk⟩ hA hG hw hl
  have hown : s.vm.findClass RX8 = some m.cls := hown
  have hl : lv_has ls 3 [(0, .ref (E.a 4)), (1, .int p0), (2, .int p1)] := hl
  have hk15 := hts (.fieldLink RX8 15 "OvenRound$Recipes" "low" "[I") (by decide +kernel)
  have hiX8 : ∀ w ∈ wsX80, w ∈ wsX8_isRipeWith := by decide +kernel
  have hk18 := hts (.fieldLink RX8 18 "OvenRound$Recipes" "high" "[I") (by decide +kernel)
  refine lv_iload_n hx hb dX8_isRipeWith_0 rfl (lv_at hl 2 rfl) ?_
  refine lv_aload_n hx hb dX8_isRipeWith_1 rfl (lv_at hl 0 rfl) ?_
  refine x_getr hx hb hw (cX4 hE) (own := RX8) (ref := RX8) (C := RX8) (T := TX8) (N := 8) hts hiX8 hown rfl 1 (by decide) hk15 (fun _ h9 => h9) rfl dX8_isRipeWith_2 ?_
  refine lv_iload_n hx hb dX8_isRipeWith_5 rfl (lv_at hl 1 rfl) ?_
  obtain ⟨hin, hf⟩ := xr_f hf
  refine x_iald hx hb hw (cX6 hE) hin dX8_isRipeWith_6 ?_
  refine lv_topi (fun v1 ex => ?_)
  replace hf := hf v1 ex
  clear ex hin
  refine lv_aload_n hx hb dX8_isRipeWith_7 rfl (lv_at hl 0 rfl) ?_
  refine x_getr hx hb hw (cX4 hE) (own := RX8) (ref := RX8) (C := RX8) (T := TX8) (N := 8) hts hiX8 hown rfl 2 (by decide) hk18 (fun _ h9 => h9) rfl dX8_isRipeWith_8 ?_
  refine lv_iload_n hx hb dX8_isRipeWith_11 rfl (lv_at hl 1 rfl) ?_
  obtain ⟨hin, hf⟩ := xr_f hf
  refine x_iald hx hb hw (cX7 hE) hin dX8_isRipeWith_12 ?_
  refine lv_topi (fun v2 ex => ?_)
  replace hf := hf v2 ex
  clear ex hin
  obtain ⟨r3, σ4, hcl, hf⟩ := xc2_f hf
  refine x_calli (va_runSN (As := [.int p1, .int v1, .int v2]) (rest := []) ⟨hx, hb, hml, hown, hts⟩ (mX11_isWithin hE p1 v1 v2 σ r3 σ4 hcl s.heap.size) ⟨va_cnB 3 hts gX8_isRipeWith_X11_isWithin_n33 rfl rfl rfl (hG.1 (.methodLinkNest RX8 33 yX11_isWithin RX11) (by decide +kernel)) (hts (.initialized RX11) (by decide +kernel)) (by decide +kernel) ⟨Nat.le_of_ble_eq_true rfl, Nat.le_of_ble_eq_true rfl⟩, hts (.static yX11_isWithin) (by decide +kernel), trivial⟩ (x_preS _ hw hA hG) rfl rfl hl.1 rfl (lv_room (Nat.le_of_ble_eq_true rfl)) dX8_isRipeWith_13 ⟨Nat.le_of_ble_eq_true rfl, Nat.le_of_ble_eq_true rfl⟩) hw hA (fun H locs hw => ?_)
  clear hcl
  exact x_zret hx hb hr hlk hw hf dX8_isRipeWith_16

def fX8_partsUpTo_c5 : Nat → Int32 → Int32 → Int32 → Int32 → xSt → Option (Int32 × xSt)
  | 0 => fun _ _ _ _ _ => none
  | n + 1 => fun a1 a2 a3 a4 σ => (if a2 < a4 then some (a3, σ) else (xr σ 11 48 ((a1 * 8) + a4) fun v1 => (xl (a3 + v1) fun v2 => (xl (a4 + 1) fun v3 => fX8_partsUpTo_c5 n a1 a2 v2 v3 σ))))
theorem fX8_partsUpTo_c5_s (n : Nat) (a1 : Int32) (a2 : Int32) (a3 : Int32) (a4 : Int32) (σ : xSt) : fX8_partsUpTo_c5 (n + 1) a1 a2 a3 a4 σ = ((if a2 < a4 then some (a3, σ) else (xr σ 11 48 ((a1 * 8) + a4) fun v1 => (xl (a3 + v1) fun v2 => (xl (a4 + 1) fun v3 => fX8_partsUpTo_c5 n a1 a2 v2 v3 σ)))) : Option (Int32 × xSt)) := rfl
def fX8_partsUpTo (p0 : Int32) (p1 : Int32) (σ : xSt) : Option (Int32 × xSt) := fX8_partsUpTo_c5 xFU p0 p1 0 0 σ
abbrev rmX8_partsUpTo : Room := { frames := 0, cells := 0, slots := 0, locals := 0 }
set_option maxRecDepth 100000 in
set_option maxHeartbeats 4000000 in
theorem mX8_partsUpTo {l : Launch} {E : xE} (hE : E.sh = shX) (p0 : Int32) (p1 : Int32) (σ : xSt) (o1 : Int32) (o2 : xSt) (hf : fX8_partsUpTo p0 p1 σ = some (o1, o2)) : xMi l yX8_partsUpTo wsX8_partsUpTo rmX8_partsUpTo E [.ref (E.a 4), .int p0, .int p1] σ o1 o2 := by
  unfold fX8_partsUpTo at hf
  refine xMi_of (cc := cX8_partsUpTo) (maxL := 5) (ret := (some .int)) (by decide) rfl (Nat.le_of_ble_eq_true rfl) ?_
  intro p e s m args below meth c A ls ⟨hx, hb, hr, hml, hown, hts, hlk⟩ hA hG hw hl
  have hown : s.vm.findClass RX8 = some m.cls := hown
  have hl : lv_has ls 5 [(0, .ref (E.a 4)), (1, .int p0), (2, .int p1)] := hl
  have hk30 := hts (.fieldLink RX8 30 "OvenRound$Recipes" "parts" "[I") (by decide +kernel)
  have hiX8 : ∀ w ∈ wsX80, w ∈ wsX8_partsUpTo := by decide +kernel
  have h5 : ∀ (n : Nat) (a1 : Int32) (a2 : Int32) (a3 : Int32) (a4 : Int32) (σ : xSt) (H : Heap) (locs : List Loc) (ls : Array Slot), xw E A s.heap s σ H locs → lv_has ls 5 [(0, .ref (E.a 4)), (1, .int a1), (2, .int a2), (3, .int a3), (4, .int a4)] → fX8_partsUpTo_c5 n a1 a2 a3 a4 σ = some (o1, o2) → W p l e rmX8_partsUpTo s m args below meth c H locs 0 0 (MQ below (xQi E A o1 o2) args s 0 0 A) (F0 m 5 ls []) := by
    intro n5
    induction n5 with
    | zero => intro a1 a2 a3 a4 σ H locs ls hw hl hf; exact nomatch hf
    | succ n5 ih5 =>
      intro a1 a2 a3 a4 σ H locs ls hw hl hf
      rw [fX8_partsUpTo_c5_s] at hf
      refine lv_iload hx hb dX8_partsUpTo_5 (lv_at hl 4 rfl) ?_
      refine lv_iload_n hx hb dX8_partsUpTo_7 rfl (lv_at hl 2 rfl) ?_
      refine lv_icmp_gt (tgt := 32) hx hb dX8_partsUpTo_8 (by decide) (fun c8 => ?_) (fun c8 => ?_)
      · replace hf := xif_pos c8 hf
        refine lv_iload_n hx hb dX8_partsUpTo_32 rfl (lv_at hl 3 rfl) ?_
        exact x_iret hx hb hr hlk hw hf dX8_partsUpTo_33
      · replace hf := xif_neg c8 hf
        refine lv_iload_n hx hb dX8_partsUpTo_11 rfl (lv_at hl 3 rfl) ?_
        refine lv_aload_n hx hb dX8_partsUpTo_12 rfl (lv_at hl 0 rfl) ?_
        refine x_getr hx hb hw (cX4 hE) (own := RX8) (ref := RX8) (C := RX8) (T := TX8) (N := 8) hts hiX8 hown rfl 6 (by decide) hk30 (fun _ h9 => h9) rfl dX8_partsUpTo_13 ?_
        refine lv_iload_n hx hb dX8_partsUpTo_16 rfl (lv_at hl 1 rfl) ?_
        refine lv_bipush (v := 8) hx hb dX8_partsUpTo_17 (by decide) ?_
        refine lv_imul hx hb dX8_partsUpTo_19 ?_
        refine lv_iload hx hb dX8_partsUpTo_20 (lv_at hl 4 rfl) ?_
        refine lv_iadd hx hb dX8_partsUpTo_22 ?_
        obtain ⟨hin, hf⟩ := xr_f hf
        refine x_iald hx hb hw (cX11 hE) hin dX8_partsUpTo_23 ?_
        refine lv_topi (fun v1 ex => ?_)
        replace hf := hf v1 ex
        clear ex hin
        refine lv_iadd hx hb dX8_partsUpTo_24 ?_
        refine lv_topi (fun v2 ex => ?_)
        replace hf := xl_f hf v2 ex
        clear ex
        refine lv_istore_n (lv' := [(3, .int v2), (0, .ref (E.a 4)), (1, .int a1), (2, .int a2), (4, .int a4)]) hx hb dX8_partsUpTo_25 rfl hl (by decide) rfl (fun ls hl => ?_)
        obtain ⟨v3, ex⟩ : ∃ y : Int32, y = (a4 + 1) := ⟨_, rfl⟩
        replace hf := xl_f hf v3 ex
        refine lv_iinc (v := v3) (lv' := [(4, .int v3), (3, .int v2), (0, .ref (E.a 4)), (1, .int a1), (2, .int a2)]) hx hb dX8_partsUpTo_26 hl (k := 4) rfl (by rw [ex]; rfl) (by decide) rfl (fun ls hl => ?_)
        clear ex
        refine lv_goto (tgt := 5) hx hb dX8_partsUpTo_29 (by decide) ?_
        exact ih5 a1 a2 v2 v3 σ _ _ _ hw (lv_sub hl [2, 3, 4, 1, 0] rfl) hf
  refine lv_iconst (v := 0) hx hb dX8_partsUpTo_0 (by decide) ?_
  refine lv_istore_n (lv' := [(3, .int 0), (0, .ref (E.a 4)), (1, .int p0), (2, .int p1)]) hx hb dX8_partsUpTo_1 rfl hl (by decide) rfl (fun ls hl => ?_)
  refine lv_iconst (v := 0) hx hb dX8_partsUpTo_2 (by decide) ?_
  refine lv_istore (lv' := [(4, .int 0), (3, .int 0), (0, .ref (E.a 4)), (1, .int p0), (2, .int p1)]) hx hb dX8_partsUpTo_3 hl (by decide) rfl (fun ls hl => ?_)
  exact h5 xFU p0 p1 0 0 σ _ _ _ hw (lv_sub hl [2, 3, 4, 1, 0] rfl) hf

def fX8_hasParts (p0 : Int32) (σ : xSt) : Option (Int32 × xSt) := (xc2 (fX8_partsUpTo p0 7 σ) fun r1 σ2 => (if r1 ≤ 0 then some (0, σ2) else some (1, σ2)))
abbrev rmX8_hasParts : Room := { frames := 1, cells := 0, slots := 0, locals := 24 }
set_option maxRecDepth 100000 in
set_option maxHeartbeats 4000000 in
theorem mX8_hasParts {l : Launch} {E : xE} (hE : E.sh = shX) (p0 : Int32) (σ : xSt) (o1 : Int32) (o2 : xSt) (hf : fX8_hasParts p0 σ = some (o1, o2)) : xMi l yX8_hasParts wsX8_hasParts rmX8_hasParts E [.ref (E.a 4), .int p0] σ o1 o2 := by
  unfold fX8_hasParts at hf
  refine xMi_of (cc := cX8_hasParts) (maxL := 2) (ret := (some .boolean)) (by decide) rfl (Nat.le_of_ble_eq_true rfl) ?_
  intro p e s m args below meth c A ls ⟨hx, hb, hr, hml, hown, hts, hlk⟩ hA hG hw hl
  have hown : s.vm.findClass RX8 = some m.cls := hown
  have hl : lv_has ls 2 [(0, .ref (E.a 4)), (1, .int p0)] := hl
  refine lv_aload_n hx hb dX8_hasParts_0 rfl (lv_at hl 0 rfl) ?_
  refine lv_iload_n hx hb dX8_hasParts_1 rfl (lv_at hl 1 rfl) ?_
  refine lv_bipush (v := 7) hx hb dX8_hasParts_2 (by decide) ?_
  obtain ⟨r1, σ2, hcl, hf⟩ := xc2_f hf
  refine x_calli (va_runV (As := [.int p0, .int 7]) (rest := []) ⟨hx, hb, hml, hown, hts⟩ (mX8_partsUpTo hE p0 7 σ r1 σ2 hcl s.heap.size) (cwV 2 hts gX8_hasParts_X8_partsUpTo rfl rfl rfl (by decide +kernel) ⟨Nat.le_of_ble_eq_true rfl, Nat.le_of_ble_eq_true rfl⟩) (x_preV _ hw hA hG (cX4 hE) rfl) rfl rfl hl.1 rfl (lv_room (Nat.le_of_ble_eq_true rfl)) dX8_hasParts_4 ⟨Nat.le_of_ble_eq_true rfl, Nat.le_of_ble_eq_true rfl⟩) hw hA (fun H locs hw => ?_)
  clear hcl
  refine lv_if_le (tgt := 14) hx hb dX8_hasParts_7 (by decide) (fun c7 => ?_) (fun c7 => ?_)
  · replace hf := xif_pos c7 hf
    refine lv_iconst (v := 0) hx hb dX8_hasParts_14 (by decide) ?_
    exact x_zretc hx hb hr hlk hw (by decide) hf dX8_hasParts_15
  · replace hf := xif_neg c7 hf
    refine lv_iconst (v := 1) hx hb dX8_hasParts_10 (by decide) ?_
    refine lv_goto (tgt := 15) hx hb dX8_hasParts_11 (by decide) ?_
    exact x_zretc hx hb hr hlk hw (by decide) hf dX8_hasParts_15

def fX8_scaledUpTo (p0 : Int32) (p1 : Int32) (p2 : Int32) (σ : xSt) : Option (Int32 × xSt) := (xc2 (fX8_partsUpTo p0 7 σ) fun r1 σ2 => (if 0 < r1 then (xc2 (fX8_partsUpTo p0 p2 σ2) fun r3 σ4 => (xnzl (Int32.toInt64 r1) (some ((Int64.toInt32 (((Int32.toInt64 p1) * (Int32.toInt64 r3)) / (Int32.toInt64 r1))), σ4)))) else some (0, σ2)))
abbrev rmX8_scaledUpTo : Room := { frames := 1, cells := 0, slots := 0, locals := 24 }
set_option maxRecDepth 100000 in
set_option maxHeartbeats 4000000 in
theorem mX8_scaledUpTo {l : Launch} {E : xE} (hE : E.sh = shX) (p0 : Int32) (p1 : Int32) (p2 : Int32) (σ : xSt) (o1 : Int32) (o2 : xSt) (hf : fX8_scaledUpTo p0 p1 p2 σ = some (o1, o2)) : xMi l yX8_scaledUpTo wsX8_scaledUpTo rmX8_scaledUpTo E [.ref (E.a 4), .int p0, .int p1, .int p2] σ o1 o2 := by
  unfold fX8_scaledUpTo at hf
  refine xMi_of (cc := cX8_scaledUpTo) (maxL := 5) (ret := (some .int)) (by decide) rfl (Nat.le_of_ble_eq_true rfl) ?_
  intro p e s m args below meth c A ls ⟨hx, hb, hr, hml, hown, hts, hlk⟩ hA hG hw hl
  have hown : s.vm.findClass RX8 = some m.cls := hown
  have hl : lv_has ls 5 [(0, .ref (E.a 4)), (1, .int p0), (2, .int p1), (3, .int p2)] := hl
  refine lv_aload_n hx hb dX8_scaledUpTo_0 rfl (lv_at hl 0 rfl) ?_
  refine lv_iload_n hx hb dX8_scaledUpTo_1 rfl (lv_at hl 1 rfl) ?_
  refine lv_bipush (v := 7) hx hb dX8_scaledUpTo_2 (by decide) ?_
  obtain ⟨r1, σ2, hcl, hf⟩ := xc2_f hf
  refine x_calli (va_runV (As := [.int p0, .int 7]) (rest := []) ⟨hx, hb, hml, hown, hts⟩ (mX8_partsUpTo hE p0 7 σ r1 σ2 hcl s.heap.size) (cwV 2 hts gX8_scaledUpTo_X8_partsUpTo rfl rfl rfl (by decide +kernel) ⟨Nat.le_of_ble_eq_true rfl, Nat.le_of_ble_eq_true rfl⟩) (x_preV _ hw hA hG (cX4 hE) rfl) rfl rfl hl.1 rfl (lv_room (Nat.le_of_ble_eq_true rfl)) dX8_scaledUpTo_4 ⟨Nat.le_of_ble_eq_true rfl, Nat.le_of_ble_eq_true rfl⟩) hw hA (fun H locs hw => ?_)
  clear hcl
  refine lv_istore (lv' := [(4, .int r1), (0, .ref (E.a 4)), (1, .int p0), (2, .int p1), (3, .int p2)]) hx hb dX8_scaledUpTo_7 hl (by decide) rfl (fun ls hl => ?_)
  refine lv_iload hx hb dX8_scaledUpTo_9 (lv_at hl 0 rfl) ?_
  refine lv_if_gt (tgt := 16) hx hb dX8_scaledUpTo_11 (by decide) (fun c11 => ?_) (fun c11 => ?_)
  · replace hf := xif_pos c11 hf
    refine lv_iload_n hx hb dX8_scaledUpTo_16 rfl (lv_at hl 3 rfl) ?_
    refine lv_i2l hx hb dX8_scaledUpTo_17 rfl ?_
    refine lv_aload_n hx hb dX8_scaledUpTo_18 rfl (lv_at hl 1 rfl) ?_
    refine lv_iload_n hx hb dX8_scaledUpTo_19 rfl (lv_at hl 2 rfl) ?_
    refine lv_iload_n hx hb dX8_scaledUpTo_20 rfl (lv_at hl 4 rfl) ?_
    obtain ⟨r3, σ4, hcl, hf⟩ := xc2_f hf
    refine x_calli (va_runV (As := [.int p0, .int p2]) (rest := [.long (Int32.toInt64 p1)]) ⟨hx, hb, hml, hown, hts⟩ (mX8_partsUpTo hE p0 p2 σ2 r3 σ4 hcl H.size) (cwV 2 hts gX8_scaledUpTo_X8_partsUpTo rfl rfl rfl (by decide +kernel) ⟨Nat.le_of_ble_eq_true rfl, Nat.le_of_ble_eq_true rfl⟩) (x_preV _ hw hA hG (cX4 hE) rfl) rfl rfl hl.1 rfl (lv_room (Nat.le_of_ble_eq_true rfl)) dX8_scaledUpTo_21 ⟨Nat.le_of_ble_eq_true rfl, Nat.le_of_ble_eq_true rfl⟩) hw hA (fun H locs hw => ?_)
    clear hcl
    refine lv_i2l hx hb dX8_scaledUpTo_24 rfl ?_
    refine lv_lmul hx hb dX8_scaledUpTo_25 ?_
    refine lv_iload hx hb dX8_scaledUpTo_26 (lv_at hl 0 rfl) ?_
    refine lv_i2l hx hb dX8_scaledUpTo_28 rfl ?_
    obtain ⟨hne, hf⟩ := xnzl_e hf
    refine lv_ldiv hx hb dX8_scaledUpTo_29 hne ?_
    refine lv_l2i hx hb dX8_scaledUpTo_30 rfl ?_
    exact x_iret hx hb hr hlk hw hf dX8_scaledUpTo_31
  · replace hf := xif_neg c11 hf
    refine lv_iconst (v := 0) hx hb dX8_scaledUpTo_14 (by decide) ?_
    exact x_iret hx hb hr hlk hw hf dX8_scaledUpTo_15

def fX8_scaled (p0 : Int32) (p1 : Int32) (p2 : Int32) (σ : xSt) : Option (Int32 × xSt) := (xc2 (fX8_scaledUpTo p0 p1 p2 σ) fun r1 σ2 => (xc2 (fX8_scaledUpTo p0 p1 (p2 - 1) σ2) fun r3 σ4 => some ((r1 - r3), σ4)))
abbrev rmX8_scaled : Room := { frames := 2, cells := 0, slots := 0, locals := 48 }
set_option maxRecDepth 100000 in
set_option maxHeartbeats 4000000 in
theorem mX8_scaled {l : Launch} {E : xE} (hE : E.sh = shX) (p0 : Int32) (p1 : Int32) (p2 : Int32) (σ : xSt) (o1 : Int32) (o2 : xSt) (hf : fX8_scaled p0 p1 p2 σ = some (o1, o2)) : xMi l yX8_scaled wsX8_scaled rmX8_scaled E [.ref (E.a 4), .int p0, .int p1, .int p2] σ o1 o2 := by
  unfold fX8_scaled at hf
  refine xMi_of (cc := cX8_scaled) (maxL := 4) (ret := (some .int)) (by decide) rfl (Nat.le_of_ble_eq_true rfl) ?_
  intro p e s m args below meth c A ls ⟨hx, hb, hr, hml, hown, hts, hlk⟩ hA hG hw hl
  have hown : s.vm.findClass RX8 = some m.cls := hown
  have hl : lv_has ls 4 [(0, .ref (E.a 4)), (1, .int p0), (2, .int p1), (3, .int p2)] := hl
  refine lv_aload_n hx hb dX8_scaled_0 rfl (lv_at hl 0 rfl) ?_
  refine lv_iload_n hx hb dX8_scaled_1 rfl (lv_at hl 1 rfl) ?_
  refine lv_iload_n hx hb dX8_scaled_2 rfl (lv_at hl 2 rfl) ?_
  refine lv_iload_n hx hb dX8_scaled_3 rfl (lv_at hl 3 rfl) ?_
  obtain ⟨r1, σ2, hcl, hf⟩ := xc2_f hf
  refine x_calli (va_runV (As := [.int p0, .int p1, .int p2]) (rest := []) ⟨hx, hb, hml, hown, hts⟩ (mX8_scaledUpTo hE p0 p1 p2 σ r1 σ2 hcl s.heap.size) (cwV 3 hts gX8_scaled_X8_scaledUpTo rfl rfl rfl (by decide +kernel) ⟨Nat.le_of_ble_eq_true rfl, Nat.le_of_ble_eq_true rfl⟩) (x_preV _ hw hA hG (cX4 hE) rfl) rfl rfl hl.1 rfl (lv_room (Nat.le_of_ble_eq_true rfl)) dX8_scaled_4 ⟨Nat.le_of_ble_eq_true rfl, Nat.le_of_ble_eq_true rfl⟩) hw hA (fun H locs hw => ?_)
  clear hcl
  refine lv_aload_n hx hb dX8_scaled_7 rfl (lv_at hl 0 rfl) ?_
  refine lv_iload_n hx hb dX8_scaled_8 rfl (lv_at hl 1 rfl) ?_
  refine lv_iload_n hx hb dX8_scaled_9 rfl (lv_at hl 2 rfl) ?_
  refine lv_iload_n hx hb dX8_scaled_10 rfl (lv_at hl 3 rfl) ?_
  refine lv_iconst (v := 1) hx hb dX8_scaled_11 (by decide) ?_
  refine lv_isub hx hb dX8_scaled_12 ?_
  obtain ⟨r3, σ4, hcl, hf⟩ := xc2_f hf
  refine x_calli (va_runV (As := [.int p0, .int p1, .int (p2 - 1)]) (rest := [.int r1]) ⟨hx, hb, hml, hown, hts⟩ (mX8_scaledUpTo hE p0 p1 (p2 - 1) σ2 r3 σ4 hcl H.size) (cwV 3 hts gX8_scaled_X8_scaledUpTo rfl rfl rfl (by decide +kernel) ⟨Nat.le_of_ble_eq_true rfl, Nat.le_of_ble_eq_true rfl⟩) (x_preV _ hw hA hG (cX4 hE) rfl) rfl rfl hl.1 rfl (lv_room (Nat.le_of_ble_eq_true rfl)) dX8_scaled_13 ⟨Nat.le_of_ble_eq_true rfl, Nat.le_of_ble_eq_true rfl⟩) hw hA (fun H locs hw => ?_)
  clear hcl
  refine lv_isub hx hb dX8_scaled_16 ?_
  exact x_iret hx hb hr hlk hw hf dX8_scaled_17

def fX8_save (p1 : Int32) (σ : xSt) : Option (Int32 × xSt) := (xs σ 1 1560 p1 (σ 4 7) fun σ1 => (xcpy σ1 10 6 0 1 1560 (p1 + 1) 6 fun σ2 => (xcpy σ2 11 48 0 1 1560 ((p1 + 1) + 6) 48 fun σ3 => some ((p1 + 55), σ3))))
abbrev rmX8_save : Room := { frames := 1, cells := 0, slots := 0, locals := 96 }
set_option maxRecDepth 100000 in
set_option maxHeartbeats 4000000 in
theorem mX8_save {l : Launch} {E : xE} (hE : E.sh = shX) (p1 : Int32) (σ : xSt) (o1 : Int32) (o2 : xSt) (hf : fX8_save p1 σ = some (o1, o2)) : xMi l yX8_save wsX8_save rmX8_save E [.ref (E.a 4), .ref (E.a 1), .int p1] σ o1 o2 := by
  unfold fX8_save at hf
  refine xMi_of (cc := cX8_save) (maxL := 3) (ret := (some .int)) (by decide) rfl (Nat.le_of_ble_eq_true rfl) ?_
  intro p e s m args below meth c A ls ⟨hx, hb, hr, hml, hown, hts, hlk⟩ hA hG hw hl
  have hown : s.vm.findClass RX8 = some m.cls := hown
  have hl : lv_has ls 3 [(0, .ref (E.a 4)), (1, .ref (E.a 1)), (2, .int p1)] := hl
  have hk45 := hts (.fieldLink RX8 45 "OvenRound$Recipes" "count" "I") (by decide +kernel)
  have hiX8 : ∀ w ∈ wsX80, w ∈ wsX8_save := by decide +kernel
  have hk27 := hts (.fieldLink RX8 27 "OvenRound$Recipes" "wait" "[I") (by decide +kernel)
  have hk30 := hts (.fieldLink RX8 30 "OvenRound$Recipes" "parts" "[I") (by decide +kernel)
  refine lv_aload_n hx hb dX8_save_0 rfl (lv_at hl 1 rfl) ?_
  refine lv_iload_n hx hb dX8_save_1 rfl (lv_at hl 2 rfl) ?_
  refine lv_aload_n hx hb dX8_save_2 rfl (lv_at hl 0 rfl) ?_
  refine x_geti hx hb hw (cX4 hE) (own := RX8) (ref := RX8) (C := RX8) (T := TX8) (N := 8) hts hiX8 hown rfl 7 (by decide) hk45 (fun _ h9 => h9) rfl dX8_save_3 ?_
  obtain ⟨hin, hf⟩ := xs_f hf
  refine x_iast hx hb hw (cX1 hE) hin dX8_save_6 (fun σ1 H locs ex hw => ?_)
  replace hf := hf σ1 ex
  clear ex hin
  refine lv_aload_n hx hb dX8_save_7 rfl (lv_at hl 0 rfl) ?_
  refine x_getr hx hb hw (cX4 hE) (own := RX8) (ref := RX8) (C := RX8) (T := TX8) (N := 8) hts hiX8 hown rfl 5 (by decide) hk27 (fun _ h9 => h9) rfl dX8_save_8 ?_
  refine lv_iconst (v := 0) hx hb dX8_save_11 (by decide) ?_
  refine lv_aload_n hx hb dX8_save_12 rfl (lv_at hl 1 rfl) ?_
  refine lv_iload_n hx hb dX8_save_13 rfl (lv_at hl 2 rfl) ?_
  refine lv_iconst (v := 1) hx hb dX8_save_14 (by decide) ?_
  refine lv_iadd hx hb dX8_save_15 ?_
  refine lv_bipush (v := 6) hx hb dX8_save_16 (by decide) ?_
  obtain ⟨hin, hf⟩ := xcpy_f hf
  refine x_copy hx hb (hml.trans hl.1.symm) hw hown (hts (.methodLink RX8 49 arraycopyName) (by decide +kernel)) (hts (.native arraycopyName) (by decide +kernel)) (hts (.static arraycopyName) (by decide +kernel)) (hts (.initialized "java/lang/System") (by decide +kernel)) (cX10 hE) (cX1 hE) hin (Nat.le_of_ble_eq_true rfl) (Nat.le_of_ble_eq_true rfl) dX8_save_18 (fun σ2 H locs ex hw => ?_)
  replace hf := hf σ2 ex
  clear ex hin
  refine lv_aload_n hx hb dX8_save_21 rfl (lv_at hl 0 rfl) ?_
  refine x_getr hx hb hw (cX4 hE) (own := RX8) (ref := RX8) (C := RX8) (T := TX8) (N := 8) hts hiX8 hown rfl 6 (by decide) hk30 (fun _ h9 => h9) rfl dX8_save_22 ?_
  refine lv_iconst (v := 0) hx hb dX8_save_25 (by decide) ?_
  refine lv_aload_n hx hb dX8_save_26 rfl (lv_at hl 1 rfl) ?_
  refine lv_iload_n hx hb dX8_save_27 rfl (lv_at hl 2 rfl) ?_
  refine lv_iconst (v := 1) hx hb dX8_save_28 (by decide) ?_
  refine lv_iadd hx hb dX8_save_29 ?_
  refine lv_bipush (v := 6) hx hb dX8_save_30 (by decide) ?_
  refine lv_iadd hx hb dX8_save_32 ?_
  refine lv_bipush (v := 48) hx hb dX8_save_33 (by decide) ?_
  obtain ⟨hin, hf⟩ := xcpy_f hf
  refine x_copy hx hb (hml.trans hl.1.symm) hw hown (hts (.methodLink RX8 49 arraycopyName) (by decide +kernel)) (hts (.native arraycopyName) (by decide +kernel)) (hts (.static arraycopyName) (by decide +kernel)) (hts (.initialized "java/lang/System") (by decide +kernel)) (cX11 hE) (cX1 hE) hin (Nat.le_of_ble_eq_true rfl) (Nat.le_of_ble_eq_true rfl) dX8_save_35 (fun σ3 H locs ex hw => ?_)
  replace hf := hf σ3 ex
  clear ex hin
  refine lv_iload_n hx hb dX8_save_38 rfl (lv_at hl 2 rfl) ?_
  refine lv_bipush (v := 55) hx hb dX8_save_39 (by decide) ?_
  refine lv_iadd hx hb dX8_save_41 ?_
  exact x_iret hx hb hr hlk hw hf dX8_save_42
