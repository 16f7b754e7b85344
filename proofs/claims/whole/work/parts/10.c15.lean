def fX12_endDay_c70 (k13 : (Int32 → Int32 → xSt → Option (Int32 × xSt))) : Nat → Int32 → Int32 → Int32 → xSt → Option (Int32 × xSt)
  | 0 => fun _ _ _ _ => none
  | n + 1 => fun a1 a2 a3 σ => (if a3 ≤ 0 then (xc2 (fX12_breadAt a2 0 σ) fun r15 σ16 => (xs σ16 1 680 r15 0 fun σ17 => (xl (a2 + 1) fun v18 => k13 a1 v18 σ17))) else (xc2 (fX12_breadAt a2 a3 σ) fun r19 σ20 => (xc2 (fX12_breadAt a2 (a3 - 1) σ20) fun r21 σ22 => (xr σ22 1 680 r21 fun v23 => (xs σ22 1 680 r19 v23 fun σ24 => (xl (a3 + (-1)) fun v25 => fX12_endDay_c70 k13 n a1 a2 v25 σ24))))))
theorem fX12_endDay_c70_s (k13 : (Int32 → Int32 → xSt → Option (Int32 × xSt))) (n : Nat) (a1 : Int32) (a2 : Int32) (a3 : Int32) (σ : xSt) : fX12_endDay_c70 k13 (n + 1) a1 a2 a3 σ = ((if a3 ≤ 0 then (xc2 (fX12_breadAt a2 0 σ) fun r15 σ16 => (xs σ16 1 680 r15 0 fun σ17 => (xl (a2 + 1) fun v18 => k13 a1 v18 σ17))) else (xc2 (fX12_breadAt a2 a3 σ) fun r19 σ20 => (xc2 (fX12_breadAt a2 (a3 - 1) σ20) fun r21 σ22 => (xr σ22 1 680 r21 fun v23 => (xs σ22 1 680 r19 v23 fun σ24 => (xl (a3 + (-1)) fun v25 => fX12_endDay_c70 k13 n a1 a2 v25 σ24)))))) : Option (Int32 × xSt)) := rfl
def fX12_endDay_c13 : Nat → Int32 → Int32 → xSt → Option (Int32 × xSt)
  | 0 => fun _ _ _ => none
  | n + 1 => fun a1 a2 σ => (xr σ 1 680 5 fun v4 => (if v4 ≤ a2 then some (a1, σ) else (xc2 (fX12_breadAt a2 3 σ) fun r5 σ6 => (xr σ6 1 680 r5 fun v7 => (xl (a1 + v7) fun v8 => (xr σ6 1 680 10 fun v9 => (xc2 (fX12_breadAt a2 3 σ6) fun r10 σ11 => (xr σ11 1 680 r10 fun v12 => (xr σ11 1 680 (19 + a2) fun v13 => (xs σ11 1 680 10 (v9 + (v12 * v13)) fun σ14 => fX12_endDay_c70 (fX12_endDay_c13 n) xFU v8 a2 3 σ14))))))))))
theorem fX12_endDay_c13_s (n : Nat) (a1 : Int32) (a2 : Int32) (σ : xSt) : fX12_endDay_c13 (n + 1) a1 a2 σ = ((xr σ 1 680 5 fun v4 => (if v4 ≤ a2 then some (a1, σ) else (xc2 (fX12_breadAt a2 3 σ) fun r5 σ6 => (xr σ6 1 680 r5 fun v7 => (xl (a1 + v7) fun v8 => (xr σ6 1 680 10 fun v9 => (xc2 (fX12_breadAt a2 3 σ6) fun r10 σ11 => (xr σ11 1 680 r10 fun v12 => (xr σ11 1 680 (19 + a2) fun v13 => (xs σ11 1 680 10 (v9 + (v12 * v13)) fun σ14 => fX12_endDay_c70 (fX12_endDay_c13 n) xFU v8 a2 3 σ14)))))))))) : Option (Int32 × xSt)) := rfl
def fX12_endDay (σ : xSt) : Option (Int32 × xSt) := (xp σ 0 0 0 fun σ1 => (xc (fX12_keep σ1) fun σ3 => fX12_endDay_c13 xFU 0 0 σ3))
abbrev rmX12_endDay : Room := { frames := 2, cells := 0, slots := 0, locals := 42 }
set_option maxRecDepth 100000 in
set_option maxHeartbeats 4000000 in
theorem mX12_endDay {l : Launch} {E : xE} (hE : E.sh = shM) (σ : xSt) (o1 : Int32) (o2 : xSt) (hf : fX12_endDay σ = some (o1, o2)) : xMi l yX12_endDay wsX12_endDay rmX12_endDay E [.ref (E.a 0)] σ o1 o2 := by
  unfold fX12_endDay at hf
  refine xMi_of (cc := cX12_endDay) (maxL := 4) (ret := (some .int)) (by decide) rfl (Nat.le_of_ble_eq_true rfl) ?_
  intro p e s m args below meth c A ls ⟨hx, hb, hr, hml, hown, hts, hlk⟩ hA hG hw hl
  have hown : s.vm.findClass RX12 = some m.cls := hown
  have hl : lv_has ls 4 [(0, .ref (E.a 0))] := hl
  have hk46 := hts (.fieldLink RX12 46 "OvenRoundModel" "raised" "I") (by decide +kernel)
  have hiX12 : ∀ w ∈ wsX120, w ∈ wsX12_endDay := by decide +kernel
  have hk9 := hts (.fieldLink RX12 9 "OvenRoundModel" "w" "[I") (by decide +kernel)
  have h13 : ∀ (n : Nat) (a1 : Int32) (a2 : Int32) (σ : xSt) (H : Heap) (locs : List Loc) (ls : Array Slot), xw E A s.heap s σ H locs → lv_has ls 4 [(0, .ref (E.a 0)), (1, .int a1), (2, .int a2)] → fX12_endDay_c13 n a1 a2 σ = some (o1, o2) → W p l e rmX12_endDay s m args below meth c H locs 0 0 (MQ below (xQi E A o1 o2) args s 0 0 A) (F0 m 13 ls []) := by
    intro n13
    induction n13 with
    | zero => intro a1 a2 σ H locs ls hw hl hf; exact nomatch hf
    | succ n13 ih13 =>
      have h70 : ∀ (n : Nat) (a1 : Int32) (a2 : Int32) (a3 : Int32) (σ : xSt) (H : Heap) (locs : List Loc) (ls : Array Slot), xw E A s.heap s σ H locs → lv_has ls 4 [(0, .ref (E.a 0)), (1, .int a1), (2, .int a2), (3, .int a3)] → fX12_endDay_c70 (fX12_endDay_c13 n13) n a1 a2 a3 σ = some (o1, o2) → W p l e rmX12_endDay s m args below meth c H locs 0 0 (MQ below (xQi E A o1 o2) args s 0 0 A) (F0 m 70 ls []) := by
        intro n70
        induction n70 with
        | zero => intro a1 a2 a3 σ H locs ls hw hl hf; exact nomatch hf
        | succ n70 ih70 =>
          intro a1 a2 a3 σ H locs ls hw hl hf
          rw [fX12_endDay_c70_s] at hf
          refine lv_iload_n hx hb dX12_endDay_70 rfl (lv_at hl 3 rfl) ?_
          refine lv_if_le (tgt := 104) hx hb dX12_endDay_71 (by decide) (fun c71 => ?_) (fun c71 => ?_)
          · replace hf := xif_pos c71 hf
            refine lv_aload_n hx hb dX12_endDay_104 rfl (lv_at hl 0 rfl) ?_
            refine x_getr hx hb hw (cM0 hE) (own := RX12) (ref := RX12) (C := RX12) (T := TX12) (N := 20) hts hiX12 hown rfl 1 (by decide) hk9 (fun _ h9 => h9) rfl dX12_endDay_105 ?_
            refine lv_aload_n hx hb dX12_endDay_108 rfl (lv_at hl 0 rfl) ?_
            refine lv_iload_n hx hb dX12_endDay_109 rfl (lv_at hl 2 rfl) ?_
            refine lv_iconst (v := 0) hx hb dX12_endDay_110 (by decide) ?_
            obtain ⟨r15, σ16, hcl, hf⟩ := xc2_f hf
            refine x_calli (va_runV (As := [.int a2, .int 0]) (rest := [.ref (E.a 1)]) ⟨hx, hb, hml, hown, hts⟩ (mX12_breadAt hE a2 0 σ r15 σ16 hcl H.size) (cwV 2 hts gX12_endDay_X12_breadAt rfl rfl rfl (by decide +kernel) ⟨Nat.le_of_ble_eq_true rfl, Nat.le_of_ble_eq_true rfl⟩) (x_preV _ hw hA hG (cM0 hE) rfl) rfl rfl hl.1 rfl (lv_room (Nat.le_of_ble_eq_true rfl)) dX12_endDay_111 ⟨Nat.le_of_ble_eq_true rfl, Nat.le_of_ble_eq_true rfl⟩) hw hA (fun H locs hw => ?_)
            clear hcl
            refine lv_iconst (v := 0) hx hb dX12_endDay_114 (by decide) ?_
            obtain ⟨hin, hf⟩ := xs_f hf
            refine x_iast hx hb hw (cM1 hE) hin dX12_endDay_115 (fun σ17 H locs ex hw => ?_)
            replace hf := hf σ17 ex
            clear ex hin
            obtain ⟨v18, ex⟩ : ∃ y : Int32, y = (a2 + 1) := ⟨_, rfl⟩
            replace hf := xl_f hf v18 ex
            refine lv_iinc (v := v18) (lv' := [(2, .int v18), (0, .ref (E.a 0)), (1, .int a1), (3, .int a3)]) hx hb dX12_endDay_116 hl (k := 2) rfl (by rw [ex]; rfl) (by decide) rfl (fun ls hl => ?_)
            clear ex
            refine lv_goto (tgt := 13) hx hb dX12_endDay_119 (by decide) ?_
            exact ih13 a1 v18 σ17 _ _ _ hw (lv_sub hl [1, 2, 0] rfl) hf
          · replace hf := xif_neg c71 hf
            refine lv_aload_n hx hb dX12_endDay_74 rfl (lv_at hl 0 rfl) ?_
            refine x_getr hx hb hw (cM0 hE) (own := RX12) (ref := RX12) (C := RX12) (T := TX12) (N := 20) hts hiX12 hown rfl 1 (by decide) hk9 (fun _ h9 => h9) rfl dX12_endDay_75 ?_
            refine lv_aload_n hx hb dX12_endDay_78 rfl (lv_at hl 0 rfl) ?_
            refine lv_iload_n hx hb dX12_endDay_79 rfl (lv_at hl 2 rfl) ?_
            refine lv_iload_n hx hb dX12_endDay_80 rfl (lv_at hl 3 rfl) ?_
            obtain ⟨r19, σ20, hcl, hf⟩ := xc2_f hf
            refine x_calli (va_runV (As := [.int a2, .int a3]) (rest := [.ref (E.a 1)]) ⟨hx, hb, hml, hown, hts⟩ (mX12_breadAt hE a2 a3 σ r19 σ20 hcl H.size) (cwV 2 hts gX12_endDay_X12_breadAt rfl rfl rfl (by decide +kernel) ⟨Nat.le_of_ble_eq_true rfl, Nat.le_of_ble_eq_true rfl⟩) (x_preV _ hw hA hG (cM0 hE) rfl) rfl rfl hl.1 rfl (lv_room (Nat.le_of_ble_eq_true rfl)) dX12_endDay_81 ⟨Nat.le_of_ble_eq_true rfl, Nat.le_of_ble_eq_true rfl⟩) hw hA (fun H locs hw => ?_)
            clear hcl
            refine lv_aload_n hx hb dX12_endDay_84 rfl (lv_at hl 0 rfl) ?_
            refine x_getr hx hb hw (cM0 hE) (own := RX12) (ref := RX12) (C := RX12) (T := TX12) (N := 20) hts hiX12 hown rfl 1 (by decide) hk9 (fun _ h9 => h9) rfl dX12_endDay_85 ?_
            refine lv_aload_n hx hb dX12_endDay_88 rfl (lv_at hl 0 rfl) ?_
            refine lv_iload_n hx hb dX12_endDay_89 rfl (lv_at hl 2 rfl) ?_
            refine lv_iload_n hx hb dX12_endDay_90 rfl (lv_at hl 3 rfl) ?_
            refine lv_iconst (v := 1) hx hb dX12_endDay_91 (by decide) ?_
            refine lv_isub hx hb dX12_endDay_92 ?_
            obtain ⟨r21, σ22, hcl, hf⟩ := xc2_f hf
            refine x_calli (va_runV (As := [.int a2, .int (a3 - 1)]) (rest := [.ref (E.a 1), .int r19, .ref (E.a 1)]) ⟨hx, hb, hml, hown, hts⟩ (mX12_breadAt hE a2 (a3 - 1) σ20 r21 σ22 hcl H.size) (cwV 2 hts gX12_endDay_X12_breadAt rfl rfl rfl (by decide +kernel) ⟨Nat.le_of_ble_eq_true rfl, Nat.le_of_ble_eq_true rfl⟩) (x_preV _ hw hA hG (cM0 hE) rfl) rfl rfl hl.1 rfl (lv_room (Nat.le_of_ble_eq_true rfl)) dX12_endDay_93 ⟨Nat.le_of_ble_eq_true rfl, Nat.le_of_ble_eq_true rfl⟩) hw hA (fun H locs hw => ?_)
            clear hcl
            obtain ⟨hin, hf⟩ := xr_f hf
            refine x_iald hx hb hw (cM1 hE) hin dX12_endDay_96 ?_
            refine lv_topi (fun v23 ex => ?_)
            replace hf := hf v23 ex
            clear ex hin
            obtain ⟨hin, hf⟩ := xs_f hf
            refine x_iast hx hb hw (cM1 hE) hin dX12_endDay_97 (fun σ24 H locs ex hw => ?_)
            replace hf := hf σ24 ex
            clear ex hin
            obtain ⟨v25, ex⟩ : ∃ y : Int32, y = (a3 + (-1)) := ⟨_, rfl⟩
            replace hf := xl_f hf v25 ex
            refine lv_iinc (v := v25) (lv' := [(3, .int v25), (0, .ref (E.a 0)), (1, .int a1), (2, .int a2)]) hx hb dX12_endDay_98 hl (k := 3) rfl (by rw [ex]; rfl) (by decide) rfl (fun ls hl => ?_)
            clear ex
            refine lv_goto (tgt := 70) hx hb dX12_endDay_101 (by decide) ?_
            exact ih70 a1 a2 v25 σ24 _ _ _ hw (lv_sub hl [1, 2, 3, 0] rfl) hf
      intro a1 a2 σ H locs ls hw hl hf
      rw [fX12_endDay_c13_s] at hf
      refine lv_iload_n hx hb dX12_endDay_13 rfl (lv_at hl 2 rfl) ?_
      refine lv_aload_n hx hb dX12_endDay_14 rfl (lv_at hl 0 rfl) ?_
      refine x_getr hx hb hw (cM0 hE) (own := RX12) (ref := RX12) (C := RX12) (T := TX12) (N := 20) hts hiX12 hown rfl 1 (by decide) hk9 (fun _ h9 => h9) rfl dX12_endDay_15 ?_
      refine lv_iconst (v := 5) hx hb dX12_endDay_18 (by decide) ?_
      obtain ⟨hin, hf⟩ := xr_f hf
      refine x_iald hx hb hw (cM1 hE) hin dX12_endDay_19 ?_
      refine lv_topi (fun v4 ex => ?_)
      replace hf := hf v4 ex
      clear ex hin
      refine lv_icmp_ge (tgt := 122) hx hb dX12_endDay_20 (by decide) (fun c20 => ?_) (fun c20 => ?_)
      · replace hf := xif_pos c20 hf
        refine lv_iload_n hx hb dX12_endDay_122 rfl (lv_at hl 1 rfl) ?_
        exact x_iret hx hb hr hlk hw hf dX12_endDay_123
      · replace hf := xif_neg c20 hf
        refine lv_iload_n hx hb dX12_endDay_23 rfl (lv_at hl 1 rfl) ?_
        refine lv_aload_n hx hb dX12_endDay_24 rfl (lv_at hl 0 rfl) ?_
        refine x_getr hx hb hw (cM0 hE) (own := RX12) (ref := RX12) (C := RX12) (T := TX12) (N := 20) hts hiX12 hown rfl 1 (by decide) hk9 (fun _ h9 => h9) rfl dX12_endDay_25 ?_
        refine lv_aload_n hx hb dX12_endDay_28 rfl (lv_at hl 0 rfl) ?_
        refine lv_iload_n hx hb dX12_endDay_29 rfl (lv_at hl 2 rfl) ?_
        refine lv_iconst (v := 3) hx hb dX12_endDay_30 (by decide) ?_
        obtain ⟨r5, σ6, hcl, hf⟩ := xc2_f hf
        refine x_calli (va_runV (As := [.int a2, .int 3]) (rest := [.ref (E.a 1), .int a1]) ⟨hx, hb, hml, hown, hts⟩ (mX12_breadAt hE a2 3 σ r5 σ6 hcl H.size) (cwV 2 hts gX12_endDay_X12_breadAt rfl rfl rfl (by decide +kernel) ⟨Nat.le_of_ble_eq_true rfl, Nat.le_of_ble_eq_true rfl⟩) (x_preV _ hw hA hG (cM0 hE) rfl) rfl rfl hl.1 rfl (lv_room (Nat.le_of_ble_eq_true rfl)) dX12_endDay_31 ⟨Nat.le_of_ble_eq_true rfl, Nat.le_of_ble_eq_true rfl⟩) hw hA (fun H locs hw => ?_)
        clear hcl
        obtain ⟨hin, hf⟩ := xr_f hf
        refine x_iald hx hb hw (cM1 hE) hin dX12_endDay_34 ?_
        refine lv_topi (fun v7 ex => ?_)
        replace hf := hf v7 ex
        clear ex hin
        refine lv_iadd hx hb dX12_endDay_35 ?_
        refine lv_topi (fun v8 ex => ?_)
        replace hf := xl_f hf v8 ex
        clear ex
        refine lv_istore_n (lv' := [(1, .int v8), (0, .ref (E.a 0)), (2, .int a2)]) hx hb dX12_endDay_36 rfl hl (by decide) rfl (fun ls hl => ?_)
        refine lv_aload_n hx hb dX12_endDay_37 rfl (lv_at hl 1 rfl) ?_
        refine x_getr hx hb hw (cM0 hE) (own := RX12) (ref := RX12) (C := RX12) (T := TX12) (N := 20) hts hiX12 hown rfl 1 (by decide) hk9 (fun _ h9 => h9) rfl dX12_endDay_38 ?_
        refine lv_bipush (v := 10) hx hb dX12_endDay_41 (by decide) ?_
        refine lv_dup2_11 hx hb dX12_endDay_43 rfl rfl ?_
        obtain ⟨hin, hf⟩ := xr_f hf
        refine x_iald hx hb hw (cM1 hE) hin dX12_endDay_44 ?_
        refine lv_topi (fun v9 ex => ?_)
        replace hf := hf v9 ex
        clear ex hin
        refine lv_aload_n hx hb dX12_endDay_45 rfl (lv_at hl 1 rfl) ?_
        refine x_getr hx hb hw (cM0 hE) (own := RX12) (ref := RX12) (C := RX12) (T := TX12) (N := 20) hts hiX12 hown rfl 1 (by decide) hk9 (fun _ h9 => h9) rfl dX12_endDay_46 ?_
        refine lv_aload_n hx hb dX12_endDay_49 rfl (lv_at hl 1 rfl) ?_
        refine lv_iload_n hx hb dX12_endDay_50 rfl (lv_at hl 2 rfl) ?_
        refine lv_iconst (v := 3) hx hb dX12_endDay_51 (by decide) ?_
        obtain ⟨r10, σ11, hcl, hf⟩ := xc2_f hf
        refine x_calli (va_runV (As := [.int a2, .int 3]) (rest := [.ref (E.a 1), .int v9, .int 10, .ref (E.a 1)]) ⟨hx, hb, hml, hown, hts⟩ (mX12_breadAt hE a2 3 σ6 r10 σ11 hcl H.size) (cwV 2 hts gX12_endDay_X12_breadAt rfl rfl rfl (by decide +kernel) ⟨Nat.le_of_ble_eq_true rfl, Nat.le_of_ble_eq_true rfl⟩) (x_preV _ hw hA hG (cM0 hE) rfl) rfl rfl hl.1 rfl (lv_room (Nat.le_of_ble_eq_true rfl)) dX12_endDay_52 ⟨Nat.le_of_ble_eq_true rfl, Nat.le_of_ble_eq_true rfl⟩) hw hA (fun H locs hw => ?_)
        clear hcl
        obtain ⟨hin, hf⟩ := xr_f hf
        refine x_iald hx hb hw (cM1 hE) hin dX12_endDay_55 ?_
        refine lv_topi (fun v12 ex => ?_)
        replace hf := hf v12 ex
        clear ex hin
        refine lv_aload_n hx hb dX12_endDay_56 rfl (lv_at hl 1 rfl) ?_
        refine x_getr hx hb hw (cM0 hE) (own := RX12) (ref := RX12) (C := RX12) (T := TX12) (N := 20) hts hiX12 hown rfl 1 (by decide) hk9 (fun _ h9 => h9) rfl dX12_endDay_57 ?_
        refine lv_bipush (v := 19) hx hb dX12_endDay_60 (by decide) ?_
        refine lv_iload_n hx hb dX12_endDay_62 rfl (lv_at hl 2 rfl) ?_
        refine lv_iadd hx hb dX12_endDay_63 ?_
        obtain ⟨hin, hf⟩ := xr_f hf
        refine x_iald hx hb hw (cM1 hE) hin dX12_endDay_64 ?_
        refine lv_topi (fun v13 ex => ?_)
        replace hf := hf v13 ex
        clear ex hin
        refine lv_imul hx hb dX12_endDay_65 ?_
        refine lv_iadd hx hb dX12_endDay_66 ?_
        obtain ⟨hin, hf⟩ := xs_f hf
        refine x_iast hx hb hw (cM1 hE) hin dX12_endDay_67 (fun σ14 H locs ex hw => ?_)
        replace hf := hf σ14 ex
        clear ex hin
        refine lv_iconst (v := 3) hx hb dX12_endDay_68 (by decide) ?_
        refine lv_istore_n (lv' := [(3, .int 3), (1, .int v8), (0, .ref (E.a 0)), (2, .int a2)]) hx hb dX12_endDay_69 rfl hl (by decide) rfl (fun ls hl => ?_)
        exact h70 xFU v8 a2 3 σ14 _ _ _ hw (lv_sub hl [2, 1, 3, 0] rfl) hf
  refine lv_aload_n hx hb dX12_endDay_0 rfl (lv_at hl 0 rfl) ?_
  refine lv_iconst (v := 0) hx hb dX12_endDay_1 (by decide) ?_
  refine x_puti hx hb hw (cM0 hE) (own := RX12) (ref := RX12) (C := RX12) (T := TX12) (N := 20) hts hiX12 tyX12 tyX12_ok nmX12 hown rfl 0 (by decide) hk46 (fun _ h9 => h9) rfl (by decide +kernel) rfl dX12_endDay_2 (fun σ1 H locs ex hw => ?_)
  replace hf := xp_f hf σ1 ex
  clear ex
  refine lv_aload_n hx hb dX12_endDay_5 rfl (lv_at hl 0 rfl) ?_
  obtain ⟨σ3, hcl, hf⟩ := xc_e hf
  refine x_callv (va_runV (As := []) (rest := []) ⟨hx, hb, hml, hown, hts⟩ (mX12_keep hE σ1 σ3 hcl H.size) (cwV 0 hts gX12_endDay_X12_keep rfl rfl rfl (by decide +kernel) ⟨Nat.le_of_ble_eq_true rfl, Nat.le_of_ble_eq_true rfl⟩) (x_preV _ hw hA hG (cM0 hE) rfl) rfl rfl hl.1 rfl (lv_room (Nat.le_of_ble_eq_true rfl)) dX12_endDay_6 ⟨Nat.le_of_ble_eq_true rfl, Nat.le_of_ble_eq_true rfl⟩) hw hA (fun H locs hw => ?_)
  clear hcl
  refine lv_iconst (v := 0) hx hb dX12_endDay_9 (by decide) ?_
  refine lv_istore_n (lv' := [(1, .int 0), (0, .ref (E.a 0))]) hx hb dX12_endDay_10 rfl hl (by decide) rfl (fun ls hl => ?_)
  refine lv_iconst (v := 0) hx hb dX12_endDay_11 (by decide) ?_
  refine lv_istore_n (lv' := [(2, .int 0), (1, .int 0), (0, .ref (E.a 0))]) hx hb dX12_endDay_12 rfl hl (by decide) rfl (fun ls hl => ?_)
  exact h13 xFU 0 0 σ3 _ _ _ hw (lv_sub hl [2, 1, 0] rfl) hf

def fX12_breadsOf_c4 : Nat → Int32 → Int32 → Int32 → xSt → Option (Int32 × xSt)
  | 0 => fun _ _ _ _ => none
  | n + 1 => fun a1 a2 a3 σ => (if 4 ≤ a3 then some (a2, σ) else (xc2 (fX12_breadAt a1 a3 σ) fun r1 σ2 => (xr σ2 1 680 r1 fun v3 => (xl (a2 + v3) fun v4 => (xl (a3 + 1) fun v5 => fX12_breadsOf_c4 n a1 v4 v5 σ2)))))
theorem fX12_breadsOf_c4_s (n : Nat) (a1 : Int32) (a2 : Int32) (a3 : Int32) (σ : xSt) : fX12_breadsOf_c4 (n + 1) a1 a2 a3 σ = ((if 4 ≤ a3 then some (a2, σ) else (xc2 (fX12_breadAt a1 a3 σ) fun r1 σ2 => (xr σ2 1 680 r1 fun v3 => (xl (a2 + v3) fun v4 => (xl (a3 + 1) fun v5 => fX12_breadsOf_c4 n a1 v4 v5 σ2))))) : Option (Int32 × xSt)) := rfl
def fX12_breadsOf (p0 : Int32) (σ : xSt) : Option (Int32 × xSt) := fX12_breadsOf_c4 xFU p0 0 0 σ
abbrev rmX12_breadsOf : Room := { frames := 1, cells := 0, slots := 0, locals := 22 }
set_option maxRecDepth 100000 in
set_option maxHeartbeats 4000000 in
theorem mX12_breadsOf {l : Launch} {E : xE} (hE : E.sh = shM) (p0 : Int32) (σ : xSt) (o1 : Int32) (o2 : xSt) (hf : fX12_breadsOf p0 σ = some (o1, o2)) : xMi l yX12_breadsOf wsX12_breadsOf rmX12_breadsOf E [.ref (E.a 0), .int p0] σ o1 o2 := by
  unfold fX12_breadsOf at hf
  refine xMi_of (cc := cX12_breadsOf) (maxL := 4) (ret := (some .int)) (by decide) rfl (Nat.le_of_ble_eq_true rfl) ?_
  intro p e s m args below meth c A ls ⟨hx, hb, hr, hml, hown, hts, hlk⟩ hA hG hw hl
  have hown : s.vm.findClass RX12 = some m.cls := hown
  have hl : lv_has ls 4 [(0, .ref (E.a 0)), (1, .int p0)] := hl
  have hk9 := hts (.fieldLink RX12 9 "OvenRoundModel" "w" "[I") (by decide +kernel)
  have hiX12 : ∀ w ∈ wsX120, w ∈ wsX12_breadsOf := by decide +kernel
  have h4 : ∀ (n : Nat) (a1 : Int32) (a2 : Int32) (a3 : Int32) (σ : xSt) (H : Heap) (locs : List Loc) (ls : Array Slot), xw E A s.heap s σ H locs → lv_has ls 4 [(0, .ref (E.a 0)), (1, .int a1), (2, .int a2), (3, .int a3)] → fX12_breadsOf_c4 n a1 a2 a3 σ = some (o1, o2) → W p l e rmX12_breadsOf s m args below meth c H locs 0 0 (MQ below (xQi E A o1 o2) args s 0 0 A) (F0 m 4 ls []) := by
    intro n4
    induction n4 with
    | zero => intro a1 a2 a3 σ H locs ls hw hl hf; exact nomatch hf
    | succ n4 ih4 =>
      intro a1 a2 a3 σ H locs ls hw hl hf
      rw [fX12_breadsOf_c4_s] at hf
      refine lv_iload_n hx hb dX12_breadsOf_4 rfl (lv_at hl 3 rfl) ?_
      refine lv_iconst (v := 4) hx hb dX12_breadsOf_5 (by decide) ?_
      refine lv_icmp_ge (tgt := 29) hx hb dX12_breadsOf_6 (by decide) (fun c6 => ?_) (fun c6 => ?_)
      · replace hf := xif_pos c6 hf
        refine lv_iload_n hx hb dX12_breadsOf_29 rfl (lv_at hl 2 rfl) ?_
        exact x_iret hx hb hr hlk hw hf dX12_breadsOf_30
      · replace hf := xif_neg c6 hf
        refine lv_iload_n hx hb dX12_breadsOf_9 rfl (lv_at hl 2 rfl) ?_
        refine lv_aload_n hx hb dX12_breadsOf_10 rfl (lv_at hl 0 rfl) ?_
        refine x_getr hx hb hw (cM0 hE) (own := RX12) (ref := RX12) (C := RX12) (T := TX12) (N := 20) hts hiX12 hown rfl 1 (by decide) hk9 (fun _ h9 => h9) rfl dX12_breadsOf_11 ?_
        refine lv_aload_n hx hb dX12_breadsOf_14 rfl (lv_at hl 0 rfl) ?_
        refine lv_iload_n hx hb dX12_breadsOf_15 rfl (lv_at hl 1 rfl) ?_
        refine lv_iload_n hx hb dX12_breadsOf_16 rfl (lv_at hl 3 rfl) ?_
        obtain ⟨r1, σ2, hcl, hf⟩ := xc2_f hf
        refine x_calli (va_runV (As := [.int a1, .int a3]) (rest := [.ref (E.a 1), .int a2]) ⟨hx, hb, hml, hown, hts⟩ (mX12_breadAt hE a1 a3 σ r1 σ2 hcl H.size) (cwV 2 hts gX12_breadsOf_X12_breadAt rfl rfl rfl (by decide +kernel) ⟨Nat.le_of_ble_eq_true rfl, Nat.le_of_ble_eq_true rfl⟩) (x_preV _ hw hA hG (cM0 hE) rfl) rfl rfl hl.1 rfl (lv_room (Nat.le_of_ble_eq_true rfl)) dX12_breadsOf_17 ⟨Nat.le_of_ble_eq_true rfl, Nat.le_of_ble_eq_true rfl⟩) hw hA (fun H locs hw => ?_)
        clear hcl
        obtain ⟨hin, hf⟩ := xr_f hf
        refine x_iald hx hb hw (cM1 hE) hin dX12_breadsOf_20 ?_
        refine lv_topi (fun v3 ex => ?_)
        replace hf := hf v3 ex
        clear ex hin
        refine lv_iadd hx hb dX12_breadsOf_21 ?_
        refine lv_topi (fun v4 ex => ?_)
        replace hf := xl_f hf v4 ex
        clear ex
        refine lv_istore_n (lv' := [(2, .int v4), (0, .ref (E.a 0)), (1, .int a1), (3, .int a3)]) hx hb dX12_breadsOf_22 rfl hl (by decide) rfl (fun ls hl => ?_)
        obtain ⟨v5, ex⟩ : ∃ y : Int32, y = (a3 + 1) := ⟨_, rfl⟩
        replace hf := xl_f hf v5 ex
        refine lv_iinc (v := v5) (lv' := [(3, .int v5), (2, .int v4), (0, .ref (E.a 0)), (1, .int a1)]) hx hb dX12_breadsOf_23 hl (k := 3) rfl (by rw [ex]; rfl) (by decide) rfl (fun ls hl => ?_)
        clear ex
        refine lv_goto (tgt := 4) hx hb dX12_breadsOf_26 (by decide) ?_
        exact ih4 a1 v4 v5 σ2 _ _ _ hw (lv_sub hl [2, 3, 1, 0] rfl) hf
  refine lv_iconst (v := 0) hx hb dX12_breadsOf_0 (by decide) ?_
  refine lv_istore_n (lv' := [(2, .int 0), (0, .ref (E.a 0)), (1, .int p0)]) hx hb dX12_breadsOf_1 rfl hl (by decide) rfl (fun ls hl => ?_)
  refine lv_iconst (v := 0) hx hb dX12_breadsOf_2 (by decide) ?_
  refine lv_istore_n (lv' := [(3, .int 0), (2, .int 0), (0, .ref (E.a 0)), (1, .int p0)]) hx hb dX12_breadsOf_3 rfl hl (by decide) rfl (fun ls hl => ?_)
  exact h4 xFU p0 0 0 σ _ _ _ hw (lv_sub hl [2, 3, 1, 0] rfl) hf

def fX12_sell_c121 (k64 : (Int32 → Int32 → Int32 → Int32 → Int32 → xSt → Option (Int32 × xSt))) (a1 : Int32) (a2 : Int32) (a4 : Int32) (a5 : Int32) (a6 : Int32) (t0 : Int32) (σ : xSt) : Option (Int32 × xSt) := (xc2 (fX12_breadAt a1 a5 σ) fun r24 σ25 => (xr σ25 1 680 r24 fun v26 => (xs σ25 1 680 r24 (v26 - a6) fun σ27 => (xl (a4 - a6) fun v28 => (xl (a5 + (-1)) fun v29 => k64 a1 a2 t0 v28 v29 σ27)))))
def fX12_sell_c120 (k64 : (Int32 → Int32 → Int32 → Int32 → Int32 → xSt → Option (Int32 × xSt))) (a1 : Int32) (a2 : Int32) (a3 : Int32) (a4 : Int32) (a5 : Int32) (a6 : Int32) (σ : xSt) : Option (Int32 × xSt) := fX12_sell_c121 k64 a1 a2 a4 a5 a6 a3 σ
def fX12_sell_c103 (k64 : (Int32 → Int32 → Int32 → Int32 → Int32 → xSt → Option (Int32 × xSt))) (a1 : Int32) (a2 : Int32) (a3 : Int32) (a4 : Int32) (a5 : Int32) (t0 : Int32) (σ : xSt) : Option (Int32 × xSt) := (if a3 = (-1) then (if t0 ≤ 0 then fX12_sell_c120 k64 a1 a2 a3 a4 a5 t0 σ else fX12_sell_c121 k64 a1 a2 a4 a5 t0 a5 σ) else fX12_sell_c120 k64 a1 a2 a3 a4 a5 t0 σ)
def fX12_sell_c64 : Nat → Int32 → Int32 → Int32 → Int32 → Int32 → xSt → Option (Int32 × xSt)
  | 0 => fun _ _ _ _ _ _ => none
  | n + 1 => fun a1 a2 a3 a4 a5 σ => (if a5 < 0 then (xr σ 1 680 9 fun v15 => (xr σ 1 680 (19 + a1) fun v16 => (xs σ 1 680 9 (v15 + (a2 * v16)) fun σ17 => some (a3, σ17)))) else (xc2 (fX12_breadAt a1 a5 σ) fun r18 σ19 => (xr σ19 1 680 r18 fun v20 => (if a4 ≤ v20 then fX12_sell_c103 (fX12_sell_c64 n) a1 a2 a3 a4 a5 a4 σ19 else (xc2 (fX12_breadAt a1 a5 σ19) fun r21 σ22 => (xr σ22 1 680 r21 fun v23 => fX12_sell_c103 (fX12_sell_c64 n) a1 a2 a3 a4 a5 v23 σ22))))))
theorem fX12_sell_c64_s (n : Nat) (a1 : Int32) (a2 : Int32) (a3 : Int32) (a4 : Int32) (a5 : Int32) (σ : xSt) : fX12_sell_c64 (n + 1) a1 a2 a3 a4 a5 σ = ((if a5 < 0 then (xr σ 1 680 9 fun v15 => (xr σ 1 680 (19 + a1) fun v16 => (xs σ 1 680 9 (v15 + (a2 * v16)) fun σ17 => some (a3, σ17)))) else (xc2 (fX12_breadAt a1 a5 σ) fun r18 σ19 => (xr σ19 1 680 r18 fun v20 => (if a4 ≤ v20 then fX12_sell_c103 (fX12_sell_c64 n) a1 a2 a3 a4 a5 a4 σ19 else (xc2 (fX12_breadAt a1 a5 σ19) fun r21 σ22 => (xr σ22 1 680 r21 fun v23 => fX12_sell_c103 (fX12_sell_c64 n) a1 a2 a3 a4 a5 v23 σ22)))))) : Option (Int32 × xSt)) := rfl
def fX12_sell_c43 (a1 : Int32) (a2 : Int32) (t0 : Int32) (σ : xSt) : Option (Int32 × xSt) := (xc2 (fX12_can t0 3 σ) fun r11 σ12 => (if r11 = 0 then some (0, σ12) else (xc (fX12_keep σ12) fun σ14 => fX12_sell_c64 xFU a1 a2 (-1) a2 3 σ14)))
def fX12_sell (p0 : Int32) (p1 : Int32) (σ : xSt) : Option (Int32 × xSt) := (xc2 (fX12_isRecipe p0 σ) fun r1 σ2 => (xc2 (fX12_can r1 1 σ2) fun r3 σ4 => (if r3 = 0 then some (0, σ4) else (xc2 (fX12_in p1 1 99 σ4) fun r5 σ6 => (xc2 (fX12_can r5 2 σ6) fun r7 σ8 => (if r7 = 0 then some (0, σ8) else (xc2 (fX12_breadsOf p0 σ8) fun r9 σ10 => (if r9 < p1 then fX12_sell_c43 p0 p1 0 σ10 else fX12_sell_c43 p0 p1 1 σ10))))))))
abbrev rmX12_sell : Room := { frames := 2, cells := 0, slots := 0, locals := 45 }
set_option maxRecDepth 100000 in
set_option maxHeartbeats 4000000 in
theorem mX12_sell {l : Launch} {E : xE} (hE : E.sh = shM) (p0 : Int32) (p1 : Int32) (σ : xSt) (o1 : Int32) (o2 : xSt) (hf : fX12_sell p0 p1 σ = some (o1, o2)) : xMi l yX12_sell wsX12_sell rmX12_sell E [.ref (E.a 0), .int p0, .int p1] σ o1 o2 := by
  unfold fX12_sell at hf
  refine xMi_of (cc := cX12_sell) (maxL := 7) (ret := (some .int)) (by decide) rfl (Nat.le_of_ble_eq_true rfl) ?_
  intro p e s m args below meth c A ls ⟨hx, hb, hr, hml, hown, hts, hlk⟩ hA hG hw hl
  have hown : s.vm.findClass RX12 = some m.cls := hown
  have hl : lv_has ls 7 [(0, .ref (E.a 0)), (1, .int p0), (2, .int p1)] := hl
  have hk9 := hts (.fieldLink RX12 9 "OvenRoundModel" "w" "[I") (by decide +kernel)
  have hiX12 : ∀ w ∈ wsX120, w ∈ wsX12_sell := by decide +kernel
  have h64 : ∀ (n : Nat) (a1 : Int32) (a2 : Int32) (a3 : Int32) (a4 : Int32) (a5 : Int32) (σ : xSt) (H : Heap) (locs : List Loc) (ls : Array Slot), xw E A s.heap s σ H locs → lv_has ls 7 [(0, .ref (E.a 0)), (1, .int a1), (2, .int a2), (3, .int a3), (4, .int a4), (5, .int a5)] → fX12_sell_c64 n a1 a2 a3 a4 a5 σ = some (o1, o2) → W p l e rmX12_sell s m args below meth c H locs 0 0 (MQ below (xQi E A o1 o2) args s 0 0 A) (F0 m 64 ls []) := by
    intro n64
    induction n64 with
    | zero => intro a1 a2 a3 a4 a5 σ H locs ls hw hl hf; exact nomatch hf
    | succ n64 ih64 =>
      have h121 : ∀ (a1 : Int32) (a2 : Int32) (a4 : Int32) (a5 : Int32) (a6 : Int32) (t0 : Int32) (σ : xSt) (H : Heap) (locs : List Loc) (ls : Array Slot), xw E A s.heap s σ H locs → lv_has ls 7 [(0, .ref (E.a 0)), (1, .int a1), (2, .int a2), (4, .int a4), (5, .int a5), (6, .int a6)] → fX12_sell_c121 (fX12_sell_c64 n64) a1 a2 a4 a5 a6 t0 σ = some (o1, o2) → W p l e rmX12_sell s m args below meth c H locs 0 0 (MQ below (xQi E A o1 o2) args s 0 0 A) (F0 m 121 ls [.int t0]) := by
        intro a1 a2 a4 a5 a6 t0 σ H locs ls hw hl hf
        unfold fX12_sell_c121 at hf
        refine lv_istore_n (lv' := [(3, .int t0), (0, .ref (E.a 0)), (1, .int a1), (2, .int a2), (4, .int a4), (5, .int a5), (6, .int a6)]) hx hb dX12_sell_121 rfl hl (by decide) rfl (fun ls hl => ?_)
        refine lv_aload_n hx hb dX12_sell_122 rfl (lv_at hl 1 rfl) ?_
        refine x_getr hx hb hw (cM0 hE) (own := RX12) (ref := RX12) (C := RX12) (T := TX12) (N := 20) hts hiX12 hown rfl 1 (by decide) hk9 (fun _ h9 => h9) rfl dX12_sell_123 ?_
        refine lv_aload_n hx hb dX12_sell_126 rfl (lv_at hl 1 rfl) ?_
        refine lv_iload_n hx hb dX12_sell_127 rfl (lv_at hl 2 rfl) ?_
        refine lv_iload hx hb dX12_sell_128 (lv_at hl 5 rfl) ?_
        obtain ⟨r24, σ25, hcl, hf⟩ := xc2_f hf
        refine x_calli (va_runV (As := [.int a1, .int a5]) (rest := [.ref (E.a 1)]) ⟨hx, hb, hml, hown, hts⟩ (mX12_breadAt hE a1 a5 σ r24 σ25 hcl H.size) (cwV 2 hts gX12_sell_X12_breadAt rfl rfl rfl (by decide +kernel) ⟨Nat.le_of_ble_eq_true rfl, Nat.le_of_ble_eq_true rfl⟩) (x_preV _ hw hA hG (cM0 hE) rfl) rfl rfl hl.1 rfl (lv_room (Nat.le_of_ble_eq_true rfl)) dX12_sell_130 ⟨Nat.le_of_ble_eq_true rfl, Nat.le_of_ble_eq_true rfl⟩) hw hA (fun H locs hw => ?_)
        clear hcl
        refine lv_dup2_11 hx hb dX12_sell_133 rfl rfl ?_
        obtain ⟨hin, hf⟩ := xr_f hf
        refine x_iald hx hb hw (cM1 hE) hin dX12_sell_134 ?_
        refine lv_topi (fun v26 ex => ?_)
        replace hf := hf v26 ex
        clear ex hin
        refine lv_iload hx hb dX12_sell_135 (lv_at hl 6 rfl) ?_
        refine lv_isub hx hb dX12_sell_137 ?_
        obtain ⟨hin, hf⟩ := xs_f hf
        refine x_iast hx hb hw (cM1 hE) hin dX12_sell_138 (fun σ27 H locs ex hw => ?_)
        replace hf := hf σ27 ex
        clear ex hin
        refine lv_iload hx hb dX12_sell_139 (lv_at hl 4 rfl) ?_
        refine lv_iload hx hb dX12_sell_141 (lv_at hl 6 rfl) ?_
        refine lv_isub hx hb dX12_sell_143 ?_
        refine lv_topi (fun v28 ex => ?_)
        replace hf := xl_f hf v28 ex
        clear ex
        refine lv_istore (lv' := [(4, .int v28), (3, .int t0), (0, .ref (E.a 0)), (1, .int a1), (2, .int a2), (5, .int a5), (6, .int a6)]) hx hb dX12_sell_144 hl (by decide) rfl (fun ls hl => ?_)
        obtain ⟨v29, ex⟩ : ∃ y : Int32, y = (a5 + (-1)) := ⟨_, rfl⟩
        replace hf := xl_f hf v29 ex
        refine lv_iinc (v := v29) (lv' := [(5, .int v29), (4, .int v28), (3, .int t0), (0, .ref (E.a 0)), (1, .int a1), (2, .int a2), (6, .int a6)]) hx hb dX12_sell_146 hl (k := 5) rfl (by rw [ex]; rfl) (by decide) rfl (fun ls hl => ?_)
        clear ex
        refine lv_goto (tgt := 64) hx hb dX12_sell_149 (by decide) ?_
        exact ih64 a1 a2 t0 v28 v29 σ27 _ _ _ hw (lv_sub hl [3, 4, 5, 2, 1, 0] rfl) hf
      have h120 : ∀ (a1 : Int32) (a2 : Int32) (a3 : Int32) (a4 : Int32) (a5 : Int32) (a6 : Int32) (σ : xSt) (H : Heap) (locs : List Loc) (ls : Array Slot), xw E A s.heap s σ H locs → lv_has ls 7 [(0, .ref (E.a 0)), (1, .int a1), (2, .int a2), (3, .int a3), (4, .int a4), (5, .int a5), (6, .int a6)] → fX12_sell_c120 (fX12_sell_c64 n64) a1 a2 a3 a4 a5 a6 σ = some (o1, o2) → W p l e rmX12_sell s m args below meth c H locs 0 0 (MQ below (xQi E A o1 o2) args s 0 0 A) (F0 m 120 ls []) := by
        intro a1 a2 a3 a4 a5 a6 σ H locs ls hw hl hf
        unfold fX12_sell_c120 at hf
        refine lv_iload_n hx hb dX12_sell_120 rfl (lv_at hl 3 rfl) ?_
        exact h121 a1 a2 a4 a5 a6 a3 σ _ _ _ hw (lv_sub hl [0, 1, 2, 4, 5, 6] rfl) hf
      have h103 : ∀ (a1 : Int32) (a2 : Int32) (a3 : Int32) (a4 : Int32) (a5 : Int32) (t0 : Int32) (σ : xSt) (H : Heap) (locs : List Loc) (ls : Array Slot), xw E A s.heap s σ H locs → lv_has ls 7 [(0, .ref (E.a 0)), (1, .int a1), (2, .int a2), (3, .int a3), (4, .int a4), (5, .int a5)] → fX12_sell_c103 (fX12_sell_c64 n64) a1 a2 a3 a4 a5 t0 σ = some (o1, o2) → W p l e rmX12_sell s m args below meth c H locs 0 0 (MQ below (xQi E A o1 o2) args s 0 0 A) (F0 m 103 ls [.int t0]) := by
        intro a1 a2 a3 a4 a5 t0 σ H locs ls hw hl hf
        unfold fX12_sell_c103 at hf
        refine lv_istore (lv' := [(6, .int t0), (0, .ref (E.a 0)), (1, .int a1), (2, .int a2), (3, .int a3), (4, .int a4), (5, .int a5)]) hx hb dX12_sell_103 hl (by decide) rfl (fun ls hl => ?_)
        refine lv_iload_n hx hb dX12_sell_105 rfl (lv_at hl 4 rfl) ?_
        refine lv_iconst (v := (-1)) hx hb dX12_sell_106 (by decide) ?_
        refine lv_icmp_ne (tgt := 120) hx hb dX12_sell_107 (by decide) (fun c107 => ?_) (fun c107 => ?_)
        · replace hf := xif_neg c107 hf
          exact h120 a1 a2 a3 a4 a5 t0 σ _ _ _ hw (lv_sub hl [1, 2, 3, 4, 5, 6, 0] rfl) hf
        · replace hf := xif_pos c107 hf
          refine lv_iload hx hb dX12_sell_110 (lv_at hl 0 rfl) ?_
          refine lv_if_le (tgt := 120) hx hb dX12_sell_112 (by decide) (fun c112 => ?_) (fun c112 => ?_)
          · replace hf := xif_pos c112 hf
            exact h120 a1 a2 a3 a4 a5 t0 σ _ _ _ hw (lv_sub hl [1, 2, 3, 4, 5, 6, 0] rfl) hf
          · replace hf := xif_neg c112 hf
            refine lv_iload hx hb dX12_sell_115 (lv_at hl 6 rfl) ?_
            refine lv_goto (tgt := 121) hx hb dX12_sell_117 (by decide) ?_
            exact h121 a1 a2 a4 a5 t0 a5 σ _ _ _ hw (lv_sub hl [1, 2, 3, 5, 6, 0] rfl) hf
      intro a1 a2 a3 a4 a5 σ H locs ls hw hl hf
      rw [fX12_sell_c64_s] at hf
      refine lv_iload hx hb dX12_sell_64 (lv_at hl 5 rfl) ?_
      refine lv_if_lt (tgt := 152) hx hb dX12_sell_66 (by decide) (fun c66 => ?_) (fun c66 => ?_)
      · replace hf := xif_pos c66 hf
        refine lv_aload_n hx hb dX12_sell_152 rfl (lv_at hl 0 rfl) ?_
        refine x_getr hx hb hw (cM0 hE) (own := RX12) (ref := RX12) (C := RX12) (T := TX12) (N := 20) hts hiX12 hown rfl 1 (by decide) hk9 (fun _ h9 => h9) rfl dX12_sell_153 ?_
        refine lv_bipush (v := 9) hx hb dX12_sell_156 (by decide) ?_
        refine lv_dup2_11 hx hb dX12_sell_158 rfl rfl ?_
        obtain ⟨hin, hf⟩ := xr_f hf
        refine x_iald hx hb hw (cM1 hE) hin dX12_sell_159 ?_
        refine lv_topi (fun v15 ex => ?_)
        replace hf := hf v15 ex
        clear ex hin
        refine lv_iload_n hx hb dX12_sell_160 rfl (lv_at hl 2 rfl) ?_
        refine lv_aload_n hx hb dX12_sell_161 rfl (lv_at hl 0 rfl) ?_
        refine x_getr hx hb hw (cM0 hE) (own := RX12) (ref := RX12) (C := RX12) (T := TX12) (N := 20) hts hiX12 hown rfl 1 (by decide) hk9 (fun _ h9 => h9) rfl dX12_sell_162 ?_
        refine lv_bipush (v := 19) hx hb dX12_sell_165 (by decide) ?_
        refine lv_iload_n hx hb dX12_sell_167 rfl (lv_at hl 1 rfl) ?_
        refine lv_iadd hx hb dX12_sell_168 ?_
        obtain ⟨hin, hf⟩ := xr_f hf
        refine x_iald hx hb hw (cM1 hE) hin dX12_sell_169 ?_
        refine lv_topi (fun v16 ex => ?_)
        replace hf := hf v16 ex
        clear ex hin
        refine lv_imul hx hb dX12_sell_170 ?_
        refine lv_iadd hx hb dX12_sell_171 ?_
        obtain ⟨hin, hf⟩ := xs_f hf
        refine x_iast hx hb hw (cM1 hE) hin dX12_sell_172 (fun σ17 H locs ex hw => ?_)
        replace hf := hf σ17 ex
        clear ex hin
        refine lv_iload_n hx hb dX12_sell_173 rfl (lv_at hl 3 rfl) ?_
        exact x_iret hx hb hr hlk hw hf dX12_sell_174
      · replace hf := xif_neg c66 hf
        refine lv_aload_n hx hb dX12_sell_69 rfl (lv_at hl 0 rfl) ?_
        refine x_getr hx hb hw (cM0 hE) (own := RX12) (ref := RX12) (C := RX12) (T := TX12) (N := 20) hts hiX12 hown rfl 1 (by decide) hk9 (fun _ h9 => h9) rfl dX12_sell_70 ?_
        refine lv_aload_n hx hb dX12_sell_73 rfl (lv_at hl 0 rfl) ?_
        refine lv_iload_n hx hb dX12_sell_74 rfl (lv_at hl 1 rfl) ?_
        refine lv_iload hx hb dX12_sell_75 (lv_at hl 5 rfl) ?_
        obtain ⟨r18, σ19, hcl, hf⟩ := xc2_f hf
        refine x_calli (va_runV (As := [.int a1, .int a5]) (rest := [.ref (E.a 1)]) ⟨hx, hb, hml, hown, hts⟩ (mX12_breadAt hE a1 a5 σ r18 σ19 hcl H.size) (cwV 2 hts gX12_sell_X12_breadAt rfl rfl rfl (by decide +kernel) ⟨Nat.le_of_ble_eq_true rfl, Nat.le_of_ble_eq_true rfl⟩) (x_preV _ hw hA hG (cM0 hE) rfl) rfl rfl hl.1 rfl (lv_room (Nat.le_of_ble_eq_true rfl)) dX12_sell_77 ⟨Nat.le_of_ble_eq_true rfl, Nat.le_of_ble_eq_true rfl⟩) hw hA (fun H locs hw => ?_)
        clear hcl
        obtain ⟨hin, hf⟩ := xr_f hf
        refine x_iald hx hb hw (cM1 hE) hin dX12_sell_80 ?_
        refine lv_topi (fun v20 ex => ?_)
        replace hf := hf v20 ex
        clear ex hin
        refine lv_iload hx hb dX12_sell_81 (lv_at hl 4 rfl) ?_
        refine lv_icmp_ge (tgt := 101) hx hb dX12_sell_83 (by decide) (fun c83 => ?_) (fun c83 => ?_)
        · replace hf := xif_pos c83 hf
          refine lv_iload hx hb dX12_sell_101 (lv_at hl 4 rfl) ?_
          exact h103 a1 a2 a3 a4 a5 a4 σ19 _ _ _ hw (lv_sub hl [0, 1, 2, 3, 4, 5] rfl) hf
        · replace hf := xif_neg c83 hf
          refine lv_aload_n hx hb dX12_sell_86 rfl (lv_at hl 0 rfl) ?_
          refine x_getr hx hb hw (cM0 hE) (own := RX12) (ref := RX12) (C := RX12) (T := TX12) (N := 20) hts hiX12 hown rfl 1 (by decide) hk9 (fun _ h9 => h9) rfl dX12_sell_87 ?_
          refine lv_aload_n hx hb dX12_sell_90 rfl (lv_at hl 0 rfl) ?_
          refine lv_iload_n hx hb dX12_sell_91 rfl (lv_at hl 1 rfl) ?_
          refine lv_iload hx hb dX12_sell_92 (lv_at hl 5 rfl) ?_
          obtain ⟨r21, σ22, hcl, hf⟩ := xc2_f hf
          refine x_calli (va_runV (As := [.int a1, .int a5]) (rest := [.ref (E.a 1)]) ⟨hx, hb, hml, hown, hts⟩ (mX12_breadAt hE a1 a5 σ19 r21 σ22 hcl H.size) (cwV 2 hts gX12_sell_X12_breadAt rfl rfl rfl (by decide +kernel) ⟨Nat.le_of_ble_eq_true rfl, Nat.le_of_ble_eq_true rfl⟩) (x_preV _ hw hA hG (cM0 hE) rfl) rfl rfl hl.1 rfl (lv_room (Nat.le_of_ble_eq_true rfl)) dX12_sell_94 ⟨Nat.le_of_ble_eq_true rfl, Nat.le_of_ble_eq_true rfl⟩) hw hA (fun H locs hw => ?_)
          clear hcl
          obtain ⟨hin, hf⟩ := xr_f hf
          refine x_iald hx hb hw (cM1 hE) hin dX12_sell_97 ?_
          refine lv_topi (fun v23 ex => ?_)
          replace hf := hf v23 ex
          clear ex hin
          refine lv_goto (tgt := 103) hx hb dX12_sell_98 (by decide) ?_
          exact h103 a1 a2 a3 a4 a5 v23 σ22 _ _ _ hw (lv_sub hl [0, 1, 2, 3, 4, 5] rfl) hf
  have h43 : ∀ (a1 : Int32) (a2 : Int32) (t0 : Int32) (σ : xSt) (H : Heap) (locs : List Loc) (ls : Array Slot), xw E A s.heap s σ H locs → lv_has ls 7 [(0, .ref (E.a 0)), (1, .int a1), (2, .int a2)] → fX12_sell_c43 a1 a2 t0 σ = some (o1, o2) → W p l e rmX12_sell s m args below meth c H locs 0 0 (MQ below (xQi E A o1 o2) args s 0 0 A) (F0 m 43 ls [.int t0, .ref (E.a 0)]) := by
    intro a1 a2 t0 σ H locs ls hw hl hf
    unfold fX12_sell_c43 at hf
    refine lv_iconst (v := 3) hx hb dX12_sell_43 (by decide) ?_
    obtain ⟨r11, σ12, hcl, hf⟩ := xc2_f hf
    refine x_calli (va_runV (As := [.int t0, .int 3]) (rest := []) ⟨hx, hb, hml, hown, hts⟩ (mX12_can hE t0 3 σ r11 σ12 hcl H.size) (cwV 2 hts gX12_sell_X12_can rfl rfl rfl (by decide +kernel) ⟨Nat.le_of_ble_eq_true rfl, Nat.le_of_ble_eq_true rfl⟩) (x_preV _ hw hA hG (cM0 hE) rfl) rfl rfl hl.1 rfl (lv_room (Nat.le_of_ble_eq_true rfl)) dX12_sell_44 ⟨Nat.le_of_ble_eq_true rfl, Nat.le_of_ble_eq_true rfl⟩) hw hA (fun H locs hw => ?_)
    clear hcl
    refine lv_if_ne (tgt := 52) hx hb dX12_sell_47 (by decide) (fun c47 => ?_) (fun c47 => ?_)
    · replace hf := xif_neg c47 hf
      refine lv_aload_n hx hb dX12_sell_52 rfl (lv_at hl 0 rfl) ?_
      obtain ⟨σ14, hcl, hf⟩ := xc_e hf
      refine x_callv (va_runV (As := []) (rest := []) ⟨hx, hb, hml, hown, hts⟩ (mX12_keep hE σ12 σ14 hcl H.size) (cwV 0 hts gX12_sell_X12_keep rfl rfl rfl (by decide +kernel) ⟨Nat.le_of_ble_eq_true rfl, Nat.le_of_ble_eq_true rfl⟩) (x_preV _ hw hA hG (cM0 hE) rfl) rfl rfl hl.1 rfl (lv_room (Nat.le_of_ble_eq_true rfl)) dX12_sell_53 ⟨Nat.le_of_ble_eq_true rfl, Nat.le_of_ble_eq_true rfl⟩) hw hA (fun H locs hw => ?_)
      clear hcl
      refine lv_iconst (v := (-1)) hx hb dX12_sell_56 (by decide) ?_
      refine lv_istore_n (lv' := [(3, .int (-1)), (0, .ref (E.a 0)), (1, .int a1), (2, .int a2)]) hx hb dX12_sell_57 rfl hl (by decide) rfl (fun ls hl => ?_)
      refine lv_iload_n hx hb dX12_sell_58 rfl (lv_at hl 3 rfl) ?_
      refine lv_istore (lv' := [(4, .int a2), (3, .int (-1)), (0, .ref (E.a 0)), (1, .int a1), (2, .int a2)]) hx hb dX12_sell_59 hl (by decide) rfl (fun ls hl => ?_)
      refine lv_iconst (v := 3) hx hb dX12_sell_61 (by decide) ?_
      refine lv_istore (lv' := [(5, .int 3), (4, .int a2), (3, .int (-1)), (0, .ref (E.a 0)), (1, .int a1), (2, .int a2)]) hx hb dX12_sell_62 hl (by decide) rfl (fun ls hl => ?_)
      exact h64 xFU a1 a2 (-1) a2 3 σ14 _ _ _ hw (lv_sub hl [3, 4, 5, 2, 1, 0] rfl) hf
    · replace hf := xif_pos c47 hf
      refine lv_iconst (v := 0) hx hb dX12_sell_50 (by decide) ?_
      exact x_iret hx hb hr hlk hw hf dX12_sell_51
  refine lv_aload_n hx hb dX12_sell_0 rfl (lv_at hl 0 rfl) ?_
  refine lv_aload_n hx hb dX12_sell_1 rfl (lv_at hl 0 rfl) ?_
  refine lv_iload_n hx hb dX12_sell_2 rfl (lv_at hl 1 rfl) ?_
  obtain ⟨r1, σ2, hcl, hf⟩ := xc2_f hf
  refine x_calli (va_runV (As := [.int p0]) (rest := [.ref (E.a 0)]) ⟨hx, hb, hml, hown, hts⟩ (mX12_isRecipe hE p0 σ r1 σ2 hcl s.heap.size) (cwV 1 hts gX12_sell_X12_isRecipe rfl rfl rfl (by decide +kernel) ⟨Nat.le_of_ble_eq_true rfl, Nat.le_of_ble_eq_true rfl⟩) (x_preV _ hw hA hG (cM0 hE) rfl) rfl rfl hl.1 rfl (lv_room (Nat.le_of_ble_eq_true rfl)) dX12_sell_3 ⟨Nat.le_of_ble_eq_true rfl, Nat.le_of_ble_eq_true rfl⟩) hw hA (fun H locs hw => ?_)
  clear hcl
  refine lv_iconst (v := 1) hx hb dX12_sell_6 (by decide) ?_
  obtain ⟨r3, σ4, hcl, hf⟩ := xc2_f hf
  refine x_calli (va_runV (As := [.int r1, .int 1]) (rest := []) ⟨hx, hb, hml, hown, hts⟩ (mX12_can hE r1 1 σ2 r3 σ4 hcl H.size) (cwV 2 hts gX12_sell_X12_can rfl rfl rfl (by decide +kernel) ⟨Nat.le_of_ble_eq_true rfl, Nat.le_of_ble_eq_true rfl⟩) (x_preV _ hw hA hG (cM0 hE) rfl) rfl rfl hl.1 rfl (lv_room (Nat.le_of_ble_eq_true rfl)) dX12_sell_7 ⟨Nat.le_of_ble_eq_true rfl, Nat.le_of_ble_eq_true rfl⟩) hw hA (fun H locs hw => ?_)
  clear hcl
  refine lv_if_eq (tgt := 50) hx hb dX12_sell_10 (by decide) (fun c10 => ?_) (fun c10 => ?_)
  · replace hf := xif_pos c10 hf
    refine lv_iconst (v := 0) hx hb dX12_sell_50 (by decide) ?_
    exact x_iret hx hb hr hlk hw hf dX12_sell_51
  · replace hf := xif_neg c10 hf
    refine lv_aload_n hx hb dX12_sell_13 rfl (lv_at hl 0 rfl) ?_
    refine lv_iload_n hx hb dX12_sell_14 rfl (lv_at hl 2 rfl) ?_
    refine lv_iconst (v := 1) hx hb dX12_sell_15 (by decide) ?_
    refine lv_bipush (v := 99) hx hb dX12_sell_16 (by decide) ?_
    obtain ⟨r5, σ6, hcl, hf⟩ := xc2_f hf
    refine x_calli (va_runS (As := [.int p1, .int 1, .int 99]) (rest := [.ref (E.a 0)]) ⟨hx, hb, hml, hown, hts⟩ (mX12_in hE p1 1 99 σ4 r5 σ6 hcl H.size) (va_cwS 3 hts gX12_sell_X12_in rfl rfl rfl (by decide +kernel) ⟨Nat.le_of_ble_eq_true rfl, Nat.le_of_ble_eq_true rfl⟩) (x_preS _ hw hA hG) rfl rfl hl.1 rfl (lv_room (Nat.le_of_ble_eq_true rfl)) dX12_sell_18 ⟨Nat.le_of_ble_eq_true rfl, Nat.le_of_ble_eq_true rfl⟩) hw hA (fun H locs hw => ?_)
    clear hcl
    refine lv_iconst (v := 2) hx hb dX12_sell_21 (by decide) ?_
    obtain ⟨r7, σ8, hcl, hf⟩ := xc2_f hf
    refine x_calli (va_runV (As := [.int r5, .int 2]) (rest := []) ⟨hx, hb, hml, hown, hts⟩ (mX12_can hE r5 2 σ6 r7 σ8 hcl H.size) (cwV 2 hts gX12_sell_X12_can rfl rfl rfl (by decide +kernel) ⟨Nat.le_of_ble_eq_true rfl, Nat.le_of_ble_eq_true rfl⟩) (x_preV _ hw hA hG (cM0 hE) rfl) rfl rfl hl.1 rfl (lv_room (Nat.le_of_ble_eq_true rfl)) dX12_sell_22 ⟨Nat.le_of_ble_eq_true rfl, Nat.le_of_ble_eq_true rfl⟩) hw hA (fun H locs hw => ?_)
    clear hcl
    refine lv_if_eq (tgt := 50) hx hb dX12_sell_25 (by decide) (fun c25 => ?_) (fun c25 => ?_)
    · replace hf := xif_pos c25 hf
      refine lv_iconst (v := 0) hx hb dX12_sell_50 (by decide) ?_
      exact x_iret hx hb hr hlk hw hf dX12_sell_51
    · replace hf := xif_neg c25 hf
      refine lv_aload_n hx hb dX12_sell_28 rfl (lv_at hl 0 rfl) ?_
      refine lv_aload_n hx hb dX12_sell_29 rfl (lv_at hl 0 rfl) ?_
      refine lv_iload_n hx hb dX12_sell_30 rfl (lv_at hl 1 rfl) ?_
      obtain ⟨r9, σ10, hcl, hf⟩ := xc2_f hf
      refine x_calli (va_runV (As := [.int p0]) (rest := [.ref (E.a 0)]) ⟨hx, hb, hml, hown, hts⟩ (mX12_breadsOf hE p0 σ8 r9 σ10 hcl H.size) (cwV 1 hts gX12_sell_X12_breadsOf rfl rfl rfl (by decide +kernel) ⟨Nat.le_of_ble_eq_true rfl, Nat.le_of_ble_eq_true rfl⟩) (x_preV _ hw hA hG (cM0 hE) rfl) rfl rfl hl.1 rfl (lv_room (Nat.le_of_ble_eq_true rfl)) dX12_sell_31 ⟨Nat.le_of_ble_eq_true rfl, Nat.le_of_ble_eq_true rfl⟩) hw hA (fun H locs hw => ?_)
      clear hcl
      refine lv_iload_n hx hb dX12_sell_34 rfl (lv_at hl 2 rfl) ?_
      refine lv_icmp_lt (tgt := 42) hx hb dX12_sell_35 (by decide) (fun c35 => ?_) (fun c35 => ?_)
      · replace hf := xif_pos c35 hf
        refine lv_iconst (v := 0) hx hb dX12_sell_42 (by decide) ?_
        exact h43 p0 p1 0 σ10 _ _ _ hw (lv_sub hl [0, 1, 2] rfl) hf
      · replace hf := xif_neg c35 hf
        refine lv_iconst (v := 1) hx hb dX12_sell_38 (by decide) ?_
        refine lv_goto (tgt := 43) hx hb dX12_sell_39 (by decide) ?_
        exact h43 p0 p1 1 σ10 _ _ _ hw (lv_sub hl [0, 1, 2] rfl) hf

def fX12_crumble_c23 : Nat → Int32 → Int32 → Int32 → xSt → Option (Int32 × xSt)
  | 0 => fun _ _ _ _ => none
  | n + 1 => fun a1 a2 a3 σ => (if 4 ≤ a3 then (xr σ 1 680 18 fun v7 => (xs σ 1 680 18 (v7 + a2) fun σ8 => some (a2, σ8))) else (xc2 (fX12_breadAt a1 a3 σ) fun r9 σ10 => (xr σ10 1 680 r9 fun v11 => (xr σ10 1 680 (19 + a1) fun v12 => (xl (a2 + (v11 * v12)) fun v13 => (xc2 (fX12_breadAt a1 a3 σ10) fun r14 σ15 => (xs σ15 1 680 r14 0 fun σ16 => (xl (a3 + 1) fun v17 => fX12_crumble_c23 n a1 v13 v17 σ16))))))))
theorem fX12_crumble_c23_s (n : Nat) (a1 : Int32) (a2 : Int32) (a3 : Int32) (σ : xSt) : fX12_crumble_c23 (n + 1) a1 a2 a3 σ = ((if 4 ≤ a3 then (xr σ 1 680 18 fun v7 => (xs σ 1 680 18 (v7 + a2) fun σ8 => some (a2, σ8))) else (xc2 (fX12_breadAt a1 a3 σ) fun r9 σ10 => (xr σ10 1 680 r9 fun v11 => (xr σ10 1 680 (19 + a1) fun v12 => (xl (a2 + (v11 * v12)) fun v13 => (xc2 (fX12_breadAt a1 a3 σ10) fun r14 σ15 => (xs σ15 1 680 r14 0 fun σ16 => (xl (a3 + 1) fun v17 => fX12_crumble_c23 n a1 v13 v17 σ16)))))))) : Option (Int32 × xSt)) := rfl
def fX12_crumble (p0 : Int32) (σ : xSt) : Option (Int32 × xSt) := (xc2 (fX12_isRecipe p0 σ) fun r1 σ2 => (xc2 (fX12_can r1 1 σ2) fun r3 σ4 => (if r3 = 0 then some (0, σ4) else (xc (fX12_keep σ4) fun σ6 => fX12_crumble_c23 xFU p0 0 1 σ6))))
abbrev rmX12_crumble : Room := { frames := 2, cells := 0, slots := 0, locals := 43 }
set_option maxRecDepth 100000 in
set_option maxHeartbeats 4000000 in
theorem mX12_crumble {l : Launch} {E : xE} (hE : E.sh = shM) (p0 : Int32) (σ : xSt) (o1 : Int32) (o2 : xSt) (hf : fX12_crumble p0 σ = some (o1, o2)) : xMi l yX12_crumble wsX12_crumble rmX12_crumble E [.ref (E.a 0), .int p0] σ o1 o2 := by
  unfold fX12_crumble at hf
  refine xMi_of (cc := cX12_crumble) (maxL := 4) (ret := (some .int)) (by decide) rfl (Nat.le_of_ble_eq_true rfl) ?_
  intro p e s m args below meth c A ls ⟨hx, hb, hr, hml, hown, hts, hlk⟩ hA hG hw hl
  have hown : s.vm.findClass RX12 = some m.cls := hown
  have hl : lv_has ls 4 [(0, .ref (E.a 0)), (1, .int p0)] := hl
  have hk9 := hts (.fieldLink RX12 9 "OvenRoundModel" "w" "[I") (by decide +kernel)
  have hiX12 : ∀ w ∈ wsX120, w ∈ wsX12_crumble := by decide +kernel
  have h23 : ∀ (n : Nat) (a1 : Int32) (a2 : Int32) (a3 : Int32) (σ : xSt) (H : Heap) (locs : List Loc) (ls : Array Slot), xw E A s.heap s σ H locs → lv_has ls 4 [(0, .ref (E.a 0)), (1, .int a1), (2, .int a2), (3, .int a3)] → fX12_crumble_c23 n a1 a2 a3 σ = some (o1, o2) → W p l e rmX12_crumble s m args below meth c H locs 0 0 (MQ below (xQi E A o1 o2) args s 0 0 A) (F0 m 23 ls []) := by
    intro n23
    induction n23 with
    | zero => intro a1 a2 a3 σ H locs ls hw hl hf; exact nomatch hf
    | succ n23 ih23 =>
      intro a1 a2 a3 σ H locs ls hw hl hf
      rw [fX12_crumble_c23_s] at hf
      refine lv_iload_n hx hb dX12_crumble_23 rfl (lv_at hl 3 rfl) ?_
      refine lv_iconst (v := 4) hx hb dX12_crumble_24 (by decide) ?_
      refine lv_icmp_ge (tgt := 70) hx hb dX12_crumble_25 (by decide) (fun c25 => ?_) (fun c25 => ?_)
      · replace hf := xif_pos c25 hf
        refine lv_aload_n hx hb dX12_crumble_70 rfl (lv_at hl 0 rfl) ?_
        refine x_getr hx hb hw (cM0 hE) (own := RX12) (ref := RX12) (C := RX12) (T := TX12) (N := 20) hts hiX12 hown rfl 1 (by decide) hk9 (fun _ h9 => h9) rfl dX12_crumble_71 ?_
        refine lv_bipush (v := 18) hx hb dX12_crumble_74 (by decide) ?_
        refine lv_dup2_11 hx hb dX12_crumble_76 rfl rfl ?_
        obtain ⟨hin, hf⟩ := xr_f hf
        refine x_iald hx hb hw (cM1 hE) hin dX12_crumble_77 ?_
        refine lv_topi (fun v7 ex => ?_)
        replace hf := hf v7 ex
        clear ex hin
        refine lv_iload_n hx hb dX12_crumble_78 rfl (lv_at hl 2 rfl) ?_
        refine lv_iadd hx hb dX12_crumble_79 ?_
        obtain ⟨hin, hf⟩ := xs_f hf
        refine x_iast hx hb hw (cM1 hE) hin dX12_crumble_80 (fun σ8 H locs ex hw => ?_)
        replace hf := hf σ8 ex
        clear ex hin
        refine lv_iload_n hx hb dX12_crumble_81 rfl (lv_at hl 2 rfl) ?_
        exact x_iret hx hb hr hlk hw hf dX12_crumble_82
      · replace hf := xif_neg c25 hf
        refine lv_iload_n hx hb dX12_crumble_28 rfl (lv_at hl 2 rfl) ?_
        refine lv_aload_n hx hb dX12_crumble_29 rfl (lv_at hl 0 rfl) ?_
        refine x_getr hx hb hw (cM0 hE) (own := RX12) (ref := RX12) (C := RX12) (T := TX12) (N := 20) hts hiX12 hown rfl 1 (by decide) hk9 (fun _ h9 => h9) rfl dX12_crumble_30 ?_
        refine lv_aload_n hx hb dX12_crumble_33 rfl (lv_at hl 0 rfl) ?_
        refine lv_iload_n hx hb dX12_crumble_34 rfl (lv_at hl 1 rfl) ?_
        refine lv_iload_n hx hb dX12_crumble_35 rfl (lv_at hl 3 rfl) ?_
        obtain ⟨r9, σ10, hcl, hf⟩ := xc2_f hf
        refine x_calli (va_runV (As := [.int a1, .int a3]) (rest := [.ref (E.a 1), .int a2]) ⟨hx, hb, hml, hown, hts⟩ (mX12_breadAt hE a1 a3 σ r9 σ10 hcl H.size) (cwV 2 hts gX12_crumble_X12_breadAt rfl rfl rfl (by decide +kernel) ⟨Nat.le_of_ble_eq_true rfl, Nat.le_of_ble_eq_true rfl⟩) (x_preV _ hw hA hG (cM0 hE) rfl) rfl rfl hl.1 rfl (lv_room (Nat.le_of_ble_eq_true rfl)) dX12_crumble_36 ⟨Nat.le_of_ble_eq_true rfl, Nat.le_of_ble_eq_true rfl⟩) hw hA (fun H locs hw => ?_)
        clear hcl
        obtain ⟨hin, hf⟩ := xr_f hf
        refine x_iald hx hb hw (cM1 hE) hin dX12_crumble_39 ?_
        refine lv_topi (fun v11 ex => ?_)
        replace hf := hf v11 ex
        clear ex hin
        refine lv_aload_n hx hb dX12_crumble_40 rfl (lv_at hl 0 rfl) ?_
        refine x_getr hx hb hw (cM0 hE) (own := RX12) (ref := RX12) (C := RX12) (T := TX12) (N := 20) hts hiX12 hown rfl 1 (by decide) hk9 (fun _ h9 => h9) rfl dX12_crumble_41 ?_
        refine lv_bipush (v := 19) hx hb dX12_crumble_44 (by decide) ?_
        refine lv_iload_n hx hb dX12_crumble_46 rfl (lv_at hl 1 rfl) ?_
        refine lv_iadd hx hb dX12_crumble_47 ?_
        obtain ⟨hin, hf⟩ := xr_f hf
        refine x_iald hx hb hw (cM1 hE) hin dX12_crumble_48 ?_
        refine lv_topi (fun v12 ex => ?_)
        replace hf := hf v12 ex
        clear ex hin
        refine lv_imul hx hb dX12_crumble_49 ?_
        refine lv_iadd hx hb dX12_crumble_50 ?_
        refine lv_topi (fun v13 ex => ?_)
        replace hf := xl_f hf v13 ex
        clear ex
        refine lv_istore_n (lv' := [(2, .int v13), (0, .ref (E.a 0)), (1, .int a1), (3, .int a3)]) hx hb dX12_crumble_51 rfl hl (by decide) rfl (fun ls hl => ?_)
        refine lv_aload_n hx hb dX12_crumble_52 rfl (lv_at hl 1 rfl) ?_
        refine x_getr hx hb hw (cM0 hE) (own := RX12) (ref := RX12) (C := RX12) (T := TX12) (N := 20) hts hiX12 hown rfl 1 (by decide) hk9 (fun _ h9 => h9) rfl dX12_crumble_53 ?_
        refine lv_aload_n hx hb dX12_crumble_56 rfl (lv_at hl 1 rfl) ?_
        refine lv_iload_n hx hb dX12_crumble_57 rfl (lv_at hl 2 rfl) ?_
        refine lv_iload_n hx hb dX12_crumble_58 rfl (lv_at hl 3 rfl) ?_
        obtain ⟨r14, σ15, hcl, hf⟩ := xc2_f hf
        refine x_calli (va_runV (As := [.int a1, .int a3]) (rest := [.ref (E.a 1)]) ⟨hx, hb, hml, hown, hts⟩ (mX12_breadAt hE a1 a3 σ10 r14 σ15 hcl H.size) (cwV 2 hts gX12_crumble_X12_breadAt rfl rfl rfl (by decide +kernel) ⟨Nat.le_of_ble_eq_true rfl, Nat.le_of_ble_eq_true rfl⟩) (x_preV _ hw hA hG (cM0 hE) rfl) rfl rfl hl.1 rfl (lv_room (Nat.le_of_ble_eq_true rfl)) dX12_crumble_59 ⟨Nat.le_of_ble_eq_true rfl, Nat.le_of_ble_eq_true rfl⟩) hw hA (fun H locs hw => ?_)
        clear hcl
        refine lv_iconst (v := 0) hx hb dX12_crumble_62 (by decide) ?_
        obtain ⟨hin, hf⟩ := xs_f hf
        refine x_iast hx hb hw (cM1 hE) hin dX12_crumble_63 (fun σ16 H locs ex hw => ?_)
        replace hf := hf σ16 ex
        clear ex hin
        obtain ⟨v17, ex⟩ : ∃ y : Int32, y = (a3 + 1) := ⟨_, rfl⟩
        replace hf := xl_f hf v17 ex
        refine lv_iinc (v := v17) (lv' := [(3, .int v17), (2, .int v13), (0, .ref (E.a 0)), (1, .int a1)]) hx hb dX12_crumble_64 hl (k := 3) rfl (by rw [ex]; rfl) (by decide) rfl (fun ls hl => ?_)
        clear ex
        refine lv_goto (tgt := 23) hx hb dX12_crumble_67 (by decide) ?_
        exact ih23 a1 v13 v17 σ16 _ _ _ hw (lv_sub hl [2, 3, 1, 0] rfl) hf
  refine lv_aload_n hx hb dX12_crumble_0 rfl (lv_at hl 0 rfl) ?_
  refine lv_aload_n hx hb dX12_crumble_1 rfl (lv_at hl 0 rfl) ?_
  refine lv_iload_n hx hb dX12_crumble_2 rfl (lv_at hl 1 rfl) ?_
  obtain ⟨r1, σ2, hcl, hf⟩ := xc2_f hf
  refine x_calli (va_runV (As := [.int p0]) (rest := [.ref (E.a 0)]) ⟨hx, hb, hml, hown, hts⟩ (mX12_isRecipe hE p0 σ r1 σ2 hcl s.heap.size) (cwV 1 hts gX12_crumble_X12_isRecipe rfl rfl rfl (by decide +kernel) ⟨Nat.le_of_ble_eq_true rfl, Nat.le_of_ble_eq_true rfl⟩) (x_preV _ hw hA hG (cM0 hE) rfl) rfl rfl hl.1 rfl (lv_room (Nat.le_of_ble_eq_true rfl)) dX12_crumble_3 ⟨Nat.le_of_ble_eq_true rfl, Nat.le_of_ble_eq_true rfl⟩) hw hA (fun H locs hw => ?_)
  clear hcl
  refine lv_iconst (v := 1) hx hb dX12_crumble_6 (by decide) ?_
  obtain ⟨r3, σ4, hcl, hf⟩ := xc2_f hf
  refine x_calli (va_runV (As := [.int r1, .int 1]) (rest := []) ⟨hx, hb, hml, hown, hts⟩ (mX12_can hE r1 1 σ2 r3 σ4 hcl H.size) (cwV 2 hts gX12_crumble_X12_can rfl rfl rfl (by decide +kernel) ⟨Nat.le_of_ble_eq_true rfl, Nat.le_of_ble_eq_true rfl⟩) (x_preV _ hw hA hG (cM0 hE) rfl) rfl rfl hl.1 rfl (lv_room (Nat.le_of_ble_eq_true rfl)) dX12_crumble_7 ⟨Nat.le_of_ble_eq_true rfl, Nat.le_of_ble_eq_true rfl⟩) hw hA (fun H locs hw => ?_)
  clear hcl
  refine lv_if_ne (tgt := 15) hx hb dX12_crumble_10 (by decide) (fun c10 => ?_) (fun c10 => ?_)
  · replace hf := xif_neg c10 hf
    refine lv_aload_n hx hb dX12_crumble_15 rfl (lv_at hl 0 rfl) ?_
    obtain ⟨σ6, hcl, hf⟩ := xc_e hf
    refine x_callv (va_runV (As := []) (rest := []) ⟨hx, hb, hml, hown, hts⟩ (mX12_keep hE σ4 σ6 hcl H.size) (cwV 0 hts gX12_crumble_X12_keep rfl rfl rfl (by decide +kernel) ⟨Nat.le_of_ble_eq_true rfl, Nat.le_of_ble_eq_true rfl⟩) (x_preV _ hw hA hG (cM0 hE) rfl) rfl rfl hl.1 rfl (lv_room (Nat.le_of_ble_eq_true rfl)) dX12_crumble_16 ⟨Nat.le_of_ble_eq_true rfl, Nat.le_of_ble_eq_true rfl⟩) hw hA (fun H locs hw => ?_)
    clear hcl
    refine lv_iconst (v := 0) hx hb dX12_crumble_19 (by decide) ?_
    refine lv_istore_n (lv' := [(2, .int 0), (0, .ref (E.a 0)), (1, .int p0)]) hx hb dX12_crumble_20 rfl hl (by decide) rfl (fun ls hl => ?_)
    refine lv_iconst (v := 1) hx hb dX12_crumble_21 (by decide) ?_
    refine lv_istore_n (lv' := [(3, .int 1), (2, .int 0), (0, .ref (E.a 0)), (1, .int p0)]) hx hb dX12_crumble_22 rfl hl (by decide) rfl (fun ls hl => ?_)
    exact h23 xFU p0 0 1 σ6 _ _ _ hw (lv_sub hl [2, 3, 1, 0] rfl) hf
  · replace hf := xif_pos c10 hf
    refine lv_iconst (v := 0) hx hb dX12_crumble_13 (by decide) ?_
    exact x_iret hx hb hr hlk hw hf dX12_crumble_14

def fX12_isFlour (p0 : Int32) (σ : xSt) : Option (Int32 × xSt) := (xc2 (fX12_in p0 0 3 σ) fun r1 σ2 => xb r1 (some (r1, σ2)))
abbrev rmX12_isFlour : Room := { frames := 1, cells := 0, slots := 0, locals := 22 }
set_option maxRecDepth 100000 in
set_option maxHeartbeats 4000000 in
theorem mX12_isFlour {l : Launch} {E : xE} (hE : E.sh = shM) (p0 : Int32) (σ : xSt) (o1 : Int32) (o2 : xSt) (hf : fX12_isFlour p0 σ = some (o1, o2)) : xMi l yX12_isFlour wsX12_isFlour rmX12_isFlour E [.int p0] σ o1 o2 := by
  unfold fX12_isFlour at hf
  refine xMi_of (cc := cX12_isFlour) (maxL := 1) (ret := (some .boolean)) (by decide) rfl (Nat.le_of_ble_eq_true rfl) ?_
  intro p e s m args below meth c A ls ⟨hx, hb, hr, hml, hown, hts, hlk⟩ hA hG hw hl
  have hown : s.vm.findClass RX12 = some m.cls := hown
  have hl : lv_has ls 1 [(0, .int p0)] := hl
  refine lv_iload_n hx hb dX12_isFlour_0 rfl (lv_at hl 0 rfl) ?_
  refine lv_iconst (v := 0) hx hb dX12_isFlour_1 (by decide) ?_
  refine lv_iconst (v := 3) hx hb dX12_isFlour_2 (by decide) ?_
  obtain ⟨r1, σ2, hcl, hf⟩ := xc2_f hf
  refine x_calli (va_runS (As := [.int p0, .int 0, .int 3]) (rest := []) ⟨hx, hb, hml, hown, hts⟩ (mX12_in hE p0 0 3 σ r1 σ2 hcl s.heap.size) (va_cwS 3 hts gX12_isFlour_X12_in rfl rfl rfl (by decide +kernel) ⟨Nat.le_of_ble_eq_true rfl, Nat.le_of_ble_eq_true rfl⟩) (x_preS _ hw hA hG) rfl rfl hl.1 rfl (lv_room (Nat.le_of_ble_eq_true rfl)) dX12_isFlour_3 ⟨Nat.le_of_ble_eq_true rfl, Nat.le_of_ble_eq_true rfl⟩) hw hA (fun H locs hw => ?_)
  clear hcl
  exact x_zret hx hb hr hlk hw hf dX12_isFlour_6

def fX12_setFlour_c51 (a1 : Int32) (a2 : Int32) (a3 : Int32) (a4 : Int32) (t0 : Int32) (σ : xSt) : Option (Int32 × xSt) := (xc2 (fX12_can t0 2 σ) fun r11 σ12 => (if r11 = 0 then some (0, σ12) else (xc (fX12_keep σ12) fun σ14 => (xr σ14 1 680 (251 + a1) fun v15 => (xs σ14 1 680 (247 + a1) a2 fun σ16 => (xs σ16 1 680 (251 + a1) a3 fun σ17 => (xs σ17 1 680 (255 + a1) a4 fun σ18 => some (v15, σ18))))))))
def fX12_setFlour_c50 (a1 : Int32) (a2 : Int32) (a3 : Int32) (a4 : Int32) (σ : xSt) : Option (Int32 × xSt) := fX12_setFlour_c51 a1 a2 a3 a4 0 σ
def fX12_setFlour (p0 : Int32) (p1 : Int32) (p2 : Int32) (p3 : Int32) (σ : xSt) : Option (Int32 × xSt) := (xc2 (fX12_isFlour p0 σ) fun r1 σ2 => (xc2 (fX12_can r1 1 σ2) fun r3 σ4 => (if r3 = 0 then some (0, σ4) else (xc2 (fX12_in p1 0 200 σ4) fun r5 σ6 => (if r5 = 0 then fX12_setFlour_c50 p0 p1 p2 p3 σ6 else (xc2 (fX12_in p2 0 999 σ6) fun r7 σ8 => (if r7 = 0 then fX12_setFlour_c50 p0 p1 p2 p3 σ8 else (xc2 (fX12_in p3 0 100 σ8) fun r9 σ10 => (if r9 = 0 then fX12_setFlour_c50 p0 p1 p2 p3 σ10 else fX12_setFlour_c51 p0 p1 p2 p3 1 σ10)))))))))
abbrev rmX12_setFlour : Room := { frames := 2, cells := 0, slots := 0, locals := 42 }
set_option maxRecDepth 100000 in
set_option maxHeartbeats 4000000 in
theorem mX12_setFlour {l : Launch} {E : xE} (hE : E.sh = shM) (p0 : Int32) (p1 : Int32) (p2 : Int32) (p3 : Int32) (σ : xSt) (o1 : Int32) (o2 : xSt) (hf : fX12_setFlour p0 p1 p2 p3 σ = some (o1, o2)) : xMi l yX12_setFlour wsX12_setFlour rmX12_setFlour E [.ref (E.a 0), .int p0, .int p1, .int p2, .int p3] σ o1 o2 := by
  unfold fX12_setFlour at hf
  refine xMi_of (cc := cX12_setFlour) (maxL := 6) (ret := (some .int)) (by decide) rfl (Nat.le_of_ble_eq_true rfl) ?_
  intro p e s m args below meth c A ls ⟨hx, hb, hr, hml, hown, hts, hlk⟩ hA hG hw hl
  have hown : s.vm.findClass RX12 = some m.cls := hown
  have hl : lv_has ls 6 [(0, .ref (E.a 0)), (1, .int p0), (2, .int p1), (3, .int p2), (4, .int p3)] := hl
  have hk9 := hts (.fieldLink RX12 9 "OvenRoundModel" "w" "[I") (by decide +kernel)
  have hiX12 : ∀ w ∈ wsX120, w ∈ wsX12_setFlour := by decide +kernel
  have h51 : ∀ (a1 : Int32) (a2 : Int32) (a3 : Int32) (a4 : Int32) (t0 : Int32) (σ : xSt) (H : Heap) (locs : List Loc) (ls : Array Slot), xw E A s.heap s σ H locs → lv_has ls 6 [(0, .ref (E.a 0)), (1, .int a1), (2, .int a2), (3, .int a3), (4, .int a4)] → fX12_setFlour_c51 a1 a2 a3 a4 t0 σ = some (o1, o2) → W p l e rmX12_setFlour s m args below meth c H locs 0 0 (MQ below (xQi E A o1 o2) args s 0 0 A) (F0 m 51 ls [.int t0, .ref (E.a 0)]) := by
    intro a1 a2 a3 a4 t0 σ H locs ls hw hl hf
    unfold fX12_setFlour_c51 at hf
    refine lv_iconst (v := 2) hx hb dX12_setFlour_51 (by decide) ?_
    obtain ⟨r11, σ12, hcl, hf⟩ := xc2_f hf
    refine x_calli (va_runV (As := [.int t0, .int 2]) (rest := []) ⟨hx, hb, hml, hown, hts⟩ (mX12_can hE t0 2 σ r11 σ12 hcl H.size) (cwV 2 hts gX12_setFlour_X12_can rfl rfl rfl (by decide +kernel) ⟨Nat.le_of_ble_eq_true rfl, Nat.le_of_ble_eq_true rfl⟩) (x_preV _ hw hA hG (cM0 hE) rfl) rfl rfl hl.1 rfl (lv_room (Nat.le_of_ble_eq_true rfl)) dX12_setFlour_52 ⟨Nat.le_of_ble_eq_true rfl, Nat.le_of_ble_eq_true rfl⟩) hw hA (fun H locs hw => ?_)
    clear hcl
    refine lv_if_ne (tgt := 60) hx hb dX12_setFlour_55 (by decide) (fun c55 => ?_) (fun c55 => ?_)
    · replace hf := xif_neg c55 hf
      refine lv_aload_n hx hb dX12_setFlour_60 rfl (lv_at hl 0 rfl) ?_
      obtain ⟨σ14, hcl, hf⟩ := xc_e hf
      refine x_callv (va_runV (As := []) (rest := []) ⟨hx, hb, hml, hown, hts⟩ (mX12_keep hE σ12 σ14 hcl H.size) (cwV 0 hts gX12_setFlour_X12_keep rfl rfl rfl (by decide +kernel) ⟨Nat.le_of_ble_eq_true rfl, Nat.le_of_ble_eq_true rfl⟩) (x_preV _ hw hA hG (cM0 hE) rfl) rfl rfl hl.1 rfl (lv_room (Nat.le_of_ble_eq_true rfl)) dX12_setFlour_61 ⟨Nat.le_of_ble_eq_true rfl, Nat.le_of_ble_eq_true rfl⟩) hw hA (fun H locs hw => ?_)
      clear hcl
      refine lv_aload_n hx hb dX12_setFlour_64 rfl (lv_at hl 0 rfl) ?_
      refine x_getr hx hb hw (cM0 hE) (own := RX12) (ref := RX12) (C := RX12) (T := TX12) (N := 20) hts hiX12 hown rfl 1 (by decide) hk9 (fun _ h9 => h9) rfl dX12_setFlour_65 ?_
      refine lv_sipush (v := 251) hx hb dX12_setFlour_68 (by decide) ?_
      refine lv_iload_n hx hb dX12_setFlour_71 rfl (lv_at hl 1 rfl) ?_
      refine lv_iadd hx hb dX12_setFlour_72 ?_
      obtain ⟨hin, hf⟩ := xr_f hf
      refine x_iald hx hb hw (cM1 hE) hin dX12_setFlour_73 ?_
      refine lv_topi (fun v15 ex => ?_)
      replace hf := hf v15 ex
      clear ex hin
      refine lv_istore (lv' := [(5, .int v15), (0, .ref (E.a 0)), (1, .int a1), (2, .int a2), (3, .int a3), (4, .int a4)]) hx hb dX12_setFlour_74 hl (by decide) rfl (fun ls hl => ?_)
      refine lv_aload_n hx hb dX12_setFlour_76 rfl (lv_at hl 1 rfl) ?_
      refine x_getr hx hb hw (cM0 hE) (own := RX12) (ref := RX12) (C := RX12) (T := TX12) (N := 20) hts hiX12 hown rfl 1 (by decide) hk9 (fun _ h9 => h9) rfl dX12_setFlour_77 ?_
      refine lv_sipush (v := 247) hx hb dX12_setFlour_80 (by decide) ?_
      refine lv_iload_n hx hb dX12_setFlour_83 rfl (lv_at hl 2 rfl) ?_
      refine lv_iadd hx hb dX12_setFlour_84 ?_
      refine lv_iload_n hx hb dX12_setFlour_85 rfl (lv_at hl 3 rfl) ?_
      obtain ⟨hin, hf⟩ := xs_f hf
      refine x_iast hx hb hw (cM1 hE) hin dX12_setFlour_86 (fun σ16 H locs ex hw => ?_)
      replace hf := hf σ16 ex
      clear ex hin
      refine lv_aload_n hx hb dX12_setFlour_87 rfl (lv_at hl 1 rfl) ?_
      refine x_getr hx hb hw (cM0 hE) (own := RX12) (ref := RX12) (C := RX12) (T := TX12) (N := 20) hts hiX12 hown rfl 1 (by decide) hk9 (fun _ h9 => h9) rfl dX12_setFlour_88 ?_
      refine lv_sipush (v := 251) hx hb dX12_setFlour_91 (by decide) ?_
      refine lv_iload_n hx hb dX12_setFlour_94 rfl (lv_at hl 2 rfl) ?_
      refine lv_iadd hx hb dX12_setFlour_95 ?_
      refine lv_iload_n hx hb dX12_setFlour_96 rfl (lv_at hl 4 rfl) ?_
      obtain ⟨hin, hf⟩ := xs_f hf
      refine x_iast hx hb hw (cM1 hE) hin dX12_setFlour_97 (fun σ17 H locs ex hw => ?_)
      replace hf := hf σ17 ex
      clear ex hin
      refine lv_aload_n hx hb dX12_setFlour_98 rfl (lv_at hl 1 rfl) ?_
      refine x_getr hx hb hw (cM0 hE) (own := RX12) (ref := RX12) (C := RX12) (T := TX12) (N := 20) hts hiX12 hown rfl 1 (by decide) hk9 (fun _ h9 => h9) rfl dX12_setFlour_99 ?_
      refine lv_sipush (v := 255) hx hb dX12_setFlour_102 (by decide) ?_
      refine lv_iload_n hx hb dX12_setFlour_105 rfl (lv_at hl 2 rfl) ?_
      refine lv_iadd hx hb dX12_setFlour_106 ?_
      refine lv_iload hx hb dX12_setFlour_107 (lv_at hl 5 rfl) ?_
      obtain ⟨hin, hf⟩ := xs_f hf
      refine x_iast hx hb hw (cM1 hE) hin dX12_setFlour_109 (fun σ18 H locs ex hw => ?_)
      replace hf := hf σ18 ex
      clear ex hin
      refine lv_iload hx hb dX12_setFlour_110 (lv_at hl 0 rfl) ?_
      exact x_iret hx hb hr hlk hw hf dX12_setFlour_112
    · replace hf := xif_pos c55 hf
      refine lv_iconst (v := 0) hx hb dX12_setFlour_58 (by decide) ?_
      exact x_iret hx hb hr hlk hw hf dX12_setFlour_59
  have h50 : ∀ (a1 : Int32) (a2 : Int32) (a3 : Int32) (a4 : Int32) (σ : xSt) (H : Heap) (locs : List Loc) (ls : Array Slot), xw E A s.heap s σ H locs → lv_has ls 6 [(0, .ref (E.a 0)), (1, .int a1), (2, .int a2), (3, .int a3), (4, .int a4)] → fX12_setFlour_c50 a1 a2 a3 a4 σ = some (o1, o2) → W p l e rmX12_setFlour s m args below meth c H locs 0 0 (MQ below (xQi E A o1 o2) args s 0 0 A) (F0 m 50 ls [.ref (E.a 0)]) := by
    intro a1 a2 a3 a4 σ H locs ls hw hl hf
    unfold fX12_setFlour_c50 at hf
    refine lv_iconst (v := 0) hx hb dX12_setFlour_50 (by decide) ?_
    exact h51 a1 a2 a3 a4 0 σ _ _ _ hw (lv_sub hl [0, 1, 2, 3, 4] rfl) hf
  refine lv_aload_n hx hb dX12_setFlour_0 rfl (lv_at hl 0 rfl) ?_
  refine lv_iload_n hx hb dX12_setFlour_1 rfl (lv_at hl 1 rfl) ?_
  obtain ⟨r1, σ2, hcl, hf⟩ := xc2_f hf
  refine x_calli (va_runS (As := [.int p0]) (rest := [.ref (E.a 0)]) ⟨hx, hb, hml, hown, hts⟩ (mX12_isFlour hE p0 σ r1 σ2 hcl s.heap.size) (va_cwS 1 hts gX12_setFlour_X12_isFlour rfl rfl rfl (by decide +kernel) ⟨Nat.le_of_ble_eq_true rfl, Nat.le_of_ble_eq_true rfl⟩) (x_preS _ hw hA hG) rfl rfl hl.1 rfl (lv_room (Nat.le_of_ble_eq_true rfl)) dX12_setFlour_2 ⟨Nat.le_of_ble_eq_true rfl, Nat.le_of_ble_eq_true rfl⟩) hw hA (fun H locs hw => ?_)
  clear hcl
  refine lv_iconst (v := 1) hx hb dX12_setFlour_5 (by decide) ?_
  obtain ⟨r3, σ4, hcl, hf⟩ := xc2_f hf
  refine x_calli (va_runV (As := [.int r1, .int 1]) (rest := []) ⟨hx, hb, hml, hown, hts⟩ (mX12_can hE r1 1 σ2 r3 σ4 hcl H.size) (cwV 2 hts gX12_setFlour_X12_can rfl rfl rfl (by decide +kernel) ⟨Nat.le_of_ble_eq_true rfl, Nat.le_of_ble_eq_true rfl⟩) (x_preV _ hw hA hG (cM0 hE) rfl) rfl rfl hl.1 rfl (lv_room (Nat.le_of_ble_eq_true rfl)) dX12_setFlour_6 ⟨Nat.le_of_ble_eq_true rfl, Nat.le_of_ble_eq_true rfl⟩) hw hA (fun H locs hw => ?_)
  clear hcl
  refine lv_if_eq (tgt := 58) hx hb dX12_setFlour_9 (by decide) (fun c9 => ?_) (fun c9 => ?_)
  · replace hf := xif_pos c9 hf
    refine lv_iconst (v := 0) hx hb dX12_setFlour_58 (by decide) ?_
    exact x_iret hx hb hr hlk hw hf dX12_setFlour_59
  · replace hf := xif_neg c9 hf
    refine lv_aload_n hx hb dX12_setFlour_12 rfl (lv_at hl 0 rfl) ?_
    refine lv_iload_n hx hb dX12_setFlour_13 rfl (lv_at hl 2 rfl) ?_
    refine lv_iconst (v := 0) hx hb dX12_setFlour_14 (by decide) ?_
    refine lv_sipush (v := 200) hx hb dX12_setFlour_15 (by decide) ?_
    obtain ⟨r5, σ6, hcl, hf⟩ := xc2_f hf
    refine x_calli (va_runS (As := [.int p1, .int 0, .int 200]) (rest := [.ref (E.a 0)]) ⟨hx, hb, hml, hown, hts⟩ (mX12_in hE p1 0 200 σ4 r5 σ6 hcl H.size) (va_cwS 3 hts gX12_setFlour_X12_in rfl rfl rfl (by decide +kernel) ⟨Nat.le_of_ble_eq_true rfl, Nat.le_of_ble_eq_true rfl⟩) (x_preS _ hw hA hG) rfl rfl hl.1 rfl (lv_room (Nat.le_of_ble_eq_true rfl)) dX12_setFlour_18 ⟨Nat.le_of_ble_eq_true rfl, Nat.le_of_ble_eq_true rfl⟩) hw hA (fun H locs hw => ?_)
    clear hcl
    refine lv_if_eq (tgt := 50) hx hb dX12_setFlour_21 (by decide) (fun c21 => ?_) (fun c21 => ?_)
    · replace hf := xif_pos c21 hf
      exact h50 p0 p1 p2 p3 σ6 _ _ _ hw (lv_sub hl [0, 1, 2, 3, 4] rfl) hf
    · replace hf := xif_neg c21 hf
      refine lv_iload_n hx hb dX12_setFlour_24 rfl (lv_at hl 3 rfl) ?_
      refine lv_iconst (v := 0) hx hb dX12_setFlour_25 (by decide) ?_
      refine lv_sipush (v := 999) hx hb dX12_setFlour_26 (by decide) ?_
      obtain ⟨r7, σ8, hcl, hf⟩ := xc2_f hf
      refine x_calli (va_runS (As := [.int p2, .int 0, .int 999]) (rest := [.ref (E.a 0)]) ⟨hx, hb, hml, hown, hts⟩ (mX12_in hE p2 0 999 σ6 r7 σ8 hcl H.size) (va_cwS 3 hts gX12_setFlour_X12_in rfl rfl rfl (by decide +kernel) ⟨Nat.le_of_ble_eq_true rfl, Nat.le_of_ble_eq_true rfl⟩) (x_preS _ hw hA hG) rfl rfl hl.1 rfl (lv_room (Nat.le_of_ble_eq_true rfl)) dX12_setFlour_29 ⟨Nat.le_of_ble_eq_true rfl, Nat.le_of_ble_eq_true rfl⟩) hw hA (fun H locs hw => ?_)
      clear hcl
      refine lv_if_eq (tgt := 50) hx hb dX12_setFlour_32 (by decide) (fun c32 => ?_) (fun c32 => ?_)
      · replace hf := xif_pos c32 hf
        exact h50 p0 p1 p2 p3 σ8 _ _ _ hw (lv_sub hl [0, 1, 2, 3, 4] rfl) hf
      · replace hf := xif_neg c32 hf
        refine lv_iload hx hb dX12_setFlour_35 (lv_at hl 4 rfl) ?_
        refine lv_iconst (v := 0) hx hb dX12_setFlour_37 (by decide) ?_
        refine lv_bipush (v := 100) hx hb dX12_setFlour_38 (by decide) ?_
        obtain ⟨r9, σ10, hcl, hf⟩ := xc2_f hf
        refine x_calli (va_runS (As := [.int p3, .int 0, .int 100]) (rest := [.ref (E.a 0)]) ⟨hx, hb, hml, hown, hts⟩ (mX12_in hE p3 0 100 σ8 r9 σ10 hcl H.size) (va_cwS 3 hts gX12_setFlour_X12_in rfl rfl rfl (by decide +kernel) ⟨Nat.le_of_ble_eq_true rfl, Nat.le_of_ble_eq_true rfl⟩) (x_preS _ hw hA hG) rfl rfl hl.1 rfl (lv_room (Nat.le_of_ble_eq_true rfl)) dX12_setFlour_40 ⟨Nat.le_of_ble_eq_true rfl, Nat.le_of_ble_eq_true rfl⟩) hw hA (fun H locs hw => ?_)
        clear hcl
        refine lv_if_eq (tgt := 50) hx hb dX12_setFlour_43 (by decide) (fun c43 => ?_) (fun c43 => ?_)
        · replace hf := xif_pos c43 hf
          exact h50 p0 p1 p2 p3 σ10 _ _ _ hw (lv_sub hl [0, 1, 2, 3, 4] rfl) hf
        · replace hf := xif_neg c43 hf
          refine lv_iconst (v := 1) hx hb dX12_setFlour_46 (by decide) ?_
          refine lv_goto (tgt := 51) hx hb dX12_setFlour_47 (by decide) ?_
          exact h51 p0 p1 p2 p3 1 σ10 _ _ _ hw (lv_sub hl [0, 1, 2, 3, 4] rfl) hf

def fX12_sumOf_c33 (k4 : (Int32 → Int32 → Int32 → xSt → Option (Int32 × xSt))) (a1 : Int32) (a3 : Int32) (t0 : Int32) (t1 : Int32) (t2 : Int32) (σ : xSt) : Option (Int32 × xSt) := (xl (t2 + (t1 * t0)) fun v3 => (xl (a3 + 1) fun v4 => k4 a1 v3 v4 σ))
def fX12_sumOf_c4 : Nat → Int32 → Int32 → Int32 → xSt → Option (Int32 × xSt)
  | 0 => fun _ _ _ _ => none
  | n + 1 => fun a1 a2 a3 σ => (if 4 ≤ a3 then some (a2, σ) else (xr σ 9 4 a3 fun v1 => (if a1 = (-1) then fX12_sumOf_c33 (fX12_sumOf_c4 n) a1 a3 1 v1 a2 σ else (xr σ 1 680 (a1 + a3) fun v2 => fX12_sumOf_c33 (fX12_sumOf_c4 n) a1 a3 v2 v1 a2 σ))))
theorem fX12_sumOf_c4_s (n : Nat) (a1 : Int32) (a2 : Int32) (a3 : Int32) (σ : xSt) : fX12_sumOf_c4 (n + 1) a1 a2 a3 σ = ((if 4 ≤ a3 then some (a2, σ) else (xr σ 9 4 a3 fun v1 => (if a1 = (-1) then fX12_sumOf_c33 (fX12_sumOf_c4 n) a1 a3 1 v1 a2 σ else (xr σ 1 680 (a1 + a3) fun v2 => fX12_sumOf_c33 (fX12_sumOf_c4 n) a1 a3 v2 v1 a2 σ)))) : Option (Int32 × xSt)) := rfl
def fX12_sumOf (p0 : Int32) (σ : xSt) : Option (Int32 × xSt) := fX12_sumOf_c4 xFU p0 0 0 σ
abbrev rmX12_sumOf : Room := { frames := 0, cells := 0, slots := 0, locals := 0 }
set_option maxRecDepth 100000 in
set_option maxHeartbeats 4000000 in
theorem mX12_sumOf {l : Launch} {E : xE} (hE : E.sh = shM) (p0 : Int32) (σ : xSt) (o1 : Int32) (o2 : xSt) (hf : fX12_sumOf p0 σ = some (o1, o2)) : xMi l yX12_sumOf wsX12_sumOf rmX12_sumOf E [.ref (E.a 0), .int p0] σ o1 o2 := by
  unfold fX12_sumOf at hf
  refine xMi_of (cc := cX12_sumOf) (maxL := 4) (ret := (some .int)) (by decide) rfl (Nat.le_of_ble_eq_true rfl) ?_
  intro p e s m args below meth c A ls ⟨hx, hb, hr, hml, hown, hts, hlk⟩ hA hG hw hl
  have hown : s.vm.findClass RX12 = some m.cls := hown
  have hl : lv_has ls 4 [(0, .ref (E.a 0)), (1, .int p0)] := hl
  have hk34 := hts (.fieldLink RX12 34 "OvenRoundModel" "share" "[I") (by decide +kernel)
  have hiX12 : ∀ w ∈ wsX120, w ∈ wsX12_sumOf := by decide +kernel
  have hk9 := hts (.fieldLink RX12 9 "OvenRoundModel" "w" "[I") (by decide +kernel)
  have h4 : ∀ (n : Nat) (a1 : Int32) (a2 : Int32) (a3 : Int32) (σ : xSt) (H : Heap) (locs : List Loc) (ls : Array Slot), xw E A s.heap s σ H locs → lv_has ls 4 [(0, .ref (E.a 0)), (1, .int a1), (2, .int a2), (3, .int a3)] → fX12_sumOf_c4 n a1 a2 a3 σ = some (o1, o2) → W p l e rmX12_sumOf s m args below meth c H locs 0 0 (MQ below (xQi E A o1 o2) args s 0 0 A) (F0 m 4 ls []) := by
    intro n4
    induction n4 with
    | zero => intro a1 a2 a3 σ H locs ls hw hl hf; exact nomatch hf
    | succ n4 ih4 =>
      have h33 : ∀ (a1 : Int32) (a3 : Int32) (t0 : Int32) (t1 : Int32) (t2 : Int32) (σ : xSt) (H : Heap) (locs : List Loc) (ls : Array Slot), xw E A s.heap s σ H locs → lv_has ls 4 [(0, .ref (E.a 0)), (1, .int a1), (3, .int a3)] → fX12_sumOf_c33 (fX12_sumOf_c4 n4) a1 a3 t0 t1 t2 σ = some (o1, o2) → W p l e rmX12_sumOf s m args below meth c H locs 0 0 (MQ below (xQi E A o1 o2) args s 0 0 A) (F0 m 33 ls [.int t0, .int t1, .int t2]) := by
        intro a1 a3 t0 t1 t2 σ H locs ls hw hl hf
        unfold fX12_sumOf_c33 at hf
        refine lv_imul hx hb dX12_sumOf_33 ?_
        refine lv_iadd hx hb dX12_sumOf_34 ?_
        refine lv_topi (fun v3 ex => ?_)
        replace hf := xl_f hf v3 ex
        clear ex
        refine lv_istore_n (lv' := [(2, .int v3), (0, .ref (E.a 0)), (1, .int a1), (3, .int a3)]) hx hb dX12_sumOf_35 rfl hl (by decide) rfl (fun ls hl => ?_)
        obtain ⟨v4, ex⟩ : ∃ y : Int32, y = (a3 + 1) := ⟨_, rfl⟩
        replace hf := xl_f hf v4 ex
        refine lv_iinc (v := v4) (lv' := [(3, .int v4), (2, .int v3), (0, .ref (E.a 0)), (1, .int a1)]) hx hb dX12_sumOf_36 hl (k := 3) rfl (by rw [ex]; rfl) (by decide) rfl (fun ls hl => ?_)
        clear ex
        refine lv_goto (tgt := 4) hx hb dX12_sumOf_39 (by decide) ?_
        exact ih4 a1 v3 v4 σ _ _ _ hw (lv_sub hl [2, 3, 1, 0] rfl) hf
      intro a1 a2 a3 σ H locs ls hw hl hf
      rw [fX12_sumOf_c4_s] at hf
      refine lv_iload_n hx hb dX12_sumOf_4 rfl (lv_at hl 3 rfl) ?_
      refine lv_iconst (v := 4) hx hb dX12_sumOf_5 (by decide) ?_
      refine lv_icmp_ge (tgt := 42) hx hb dX12_sumOf_6 (by decide) (fun c6 => ?_) (fun c6 => ?_)
      · replace hf := xif_pos c6 hf
        refine lv_iload_n hx hb dX12_sumOf_42 rfl (lv_at hl 2 rfl) ?_
        exact x_iret hx hb hr hlk hw hf dX12_sumOf_43
      · replace hf := xif_neg c6 hf
        refine lv_iload_n hx hb dX12_sumOf_9 rfl (lv_at hl 2 rfl) ?_
        refine lv_aload_n hx hb dX12_sumOf_10 rfl (lv_at hl 0 rfl) ?_
        refine x_getr hx hb hw (cM0 hE) (own := RX12) (ref := RX12) (C := RX12) (T := TX12) (N := 20) hts hiX12 hown rfl 12 (by decide) hk34 (fun _ h9 => h9) rfl dX12_sumOf_11 ?_
        refine lv_iload_n hx hb dX12_sumOf_14 rfl (lv_at hl 3 rfl) ?_
        obtain ⟨hin, hf⟩ := xr_f hf
        refine x_iald hx hb hw (cM9 hE) hin dX12_sumOf_15 ?_
        refine lv_topi (fun v1 ex => ?_)
        replace hf := hf v1 ex
        clear ex hin
        refine lv_iload_n hx hb dX12_sumOf_16 rfl (lv_at hl 1 rfl) ?_
        refine lv_iconst (v := (-1)) hx hb dX12_sumOf_17 (by decide) ?_
        refine lv_icmp_ne (tgt := 25) hx hb dX12_sumOf_18 (by decide) (fun c18 => ?_) (fun c18 => ?_)
        · replace hf := xif_neg c18 hf
          refine lv_aload_n hx hb dX12_sumOf_25 rfl (lv_at hl 0 rfl) ?_
          refine x_getr hx hb hw (cM0 hE) (own := RX12) (ref := RX12) (C := RX12) (T := TX12) (N := 20) hts hiX12 hown rfl 1 (by decide) hk9 (fun _ h9 => h9) rfl dX12_sumOf_26 ?_
          refine lv_iload_n hx hb dX12_sumOf_29 rfl (lv_at hl 1 rfl) ?_
          refine lv_iload_n hx hb dX12_sumOf_30 rfl (lv_at hl 3 rfl) ?_
          refine lv_iadd hx hb dX12_sumOf_31 ?_
          obtain ⟨hin, hf⟩ := xr_f hf
          refine x_iald hx hb hw (cM1 hE) hin dX12_sumOf_32 ?_
          refine lv_topi (fun v2 ex => ?_)
          replace hf := hf v2 ex
          clear ex hin
          exact h33 a1 a3 v2 v1 a2 σ _ _ _ hw (lv_sub hl [0, 1, 3] rfl) hf
        · replace hf := xif_pos c18 hf
          refine lv_iconst (v := 1) hx hb dX12_sumOf_21 (by decide) ?_
          refine lv_goto (tgt := 33) hx hb dX12_sumOf_22 (by decide) ?_
          exact h33 a1 a3 1 v1 a2 σ _ _ _ hw (lv_sub hl [0, 1, 3] rfl) hf
  refine lv_iconst (v := 0) hx hb dX12_sumOf_0 (by decide) ?_
  refine lv_istore_n (lv' := [(2, .int 0), (0, .ref (E.a 0)), (1, .int p0)]) hx hb dX12_sumOf_1 rfl hl (by decide) rfl (fun ls hl => ?_)
  refine lv_iconst (v := 0) hx hb dX12_sumOf_2 (by decide) ?_
  refine lv_istore_n (lv' := [(3, .int 0), (2, .int 0), (0, .ref (E.a 0)), (1, .int p0)]) hx hb dX12_sumOf_3 rfl hl (by decide) rfl (fun ls hl => ?_)
  exact h4 xFU p0 0 0 σ _ _ _ hw (lv_sub hl [2, 3, 1, 0] rfl) hf

def fX12_isMix_c2 : Nat → Int32 → Int32 → Int32 → xSt → Option (Int32 × xSt)
  | 0 => fun _ _ _ _ => none
  | n + 1 => fun a1 a2 a3 σ => (if 4 ≤ a3 then (xc2 (fX12_sumOf (-1) σ) fun r1 σ2 => (if r1 = (100 * (σ2 0 14)) then (xc2 (fX12_sumOf 247 σ2) fun r3 σ4 => (xc2 (fX12_in r3 ((100 * a1) * (σ4 0 14)) ((100 * a2) * (σ4 0 14)) σ4) fun r5 σ6 => (if r5 = 0 then some (0, σ6) else some (1, σ6)))) else some (0, σ2))) else (xr σ 9 4 a3 fun v7 => (xr σ 1 680 (255 + a3) fun v8 => (xc2 (fX12_in v7 0 (v8 * (σ 0 14)) σ) fun r9 σ10 => (if r9 = 0 then some (0, σ10) else (xl (a3 + 1) fun v11 => fX12_isMix_c2 n a1 a2 v11 σ10))))))
theorem fX12_isMix_c2_s (n : Nat) (a1 : Int32) (a2 : Int32) (a3 : Int32) (σ : xSt) : fX12_isMix_c2 (n + 1) a1 a2 a3 σ = ((if 4 ≤ a3 then (xc2 (fX12_sumOf (-1) σ) fun r1 σ2 => (if r1 = (100 * (σ2 0 14)) then (xc2 (fX12_sumOf 247 σ2) fun r3 σ4 => (xc2 (fX12_in r3 ((100 * a1) * (σ4 0 14)) ((100 * a2) * (σ4 0 14)) σ4) fun r5 σ6 => (if r5 = 0 then some (0, σ6) else some (1, σ6)))) else some (0, σ2))) else (xr σ 9 4 a3 fun v7 => (xr σ 1 680 (255 + a3) fun v8 => (xc2 (fX12_in v7 0 (v8 * (σ 0 14)) σ) fun r9 σ10 => (if r9 = 0 then some (0, σ10) else (xl (a3 + 1) fun v11 => fX12_isMix_c2 n a1 a2 v11 σ10)))))) : Option (Int32 × xSt)) := rfl
def fX12_isMix (p0 : Int32) (p1 : Int32) (σ : xSt) : Option (Int32 × xSt) := fX12_isMix_c2 xFU p0 p1 0 σ
abbrev rmX12_isMix : Room := { frames := 1, cells := 0, slots := 0, locals := 23 }
set_option maxRecDepth 100000 in
set_option maxHeartbeats 4000000 in
theorem mX12_isMix {l : Launch} {E : xE} (hE : E.sh = shM) (p0 : Int32) (p1 : Int32) (σ : xSt) (o1 : Int32) (o2 : xSt) (hf : fX12_isMix p0 p1 σ = some (o1, o2)) : xMi l yX12_isMix wsX12_isMix rmX12_isMix E [.ref (E.a 0), .int p0, .int p1] σ o1 o2 := by
  unfold fX12_isMix at hf
  refine xMi_of (cc := cX12_isMix) (maxL := 4) (ret := (some .boolean)) (by decide) rfl (Nat.le_of_ble_eq_true rfl) ?_
  intro p e s m args below meth c A ls ⟨hx, hb, hr, hml, hown, hts, hlk⟩ hA hG hw hl
  have hown : s.vm.findClass RX12 = some m.cls := hown
  have hl : lv_has ls 4 [(0, .ref (E.a 0)), (1, .int p0), (2, .int p1)] := hl
  have hk148 := hts (.fieldLink RX12 148 "OvenRoundModel" "times" "I") (by decide +kernel)
  have hiX12 : ∀ w ∈ wsX120, w ∈ wsX12_isMix := by decide +kernel
  have hk34 := hts (.fieldLink RX12 34 "OvenRoundModel" "share" "[I") (by decide +kernel)
  have hk9 := hts (.fieldLink RX12 9 "OvenRoundModel" "w" "[I") (by decide +kernel)
  have h2 : ∀ (n : Nat) (a1 : Int32) (a2 : Int32) (a3 : Int32) (σ : xSt) (H : Heap) (locs : List Loc) (ls : Array Slot), xw E A s.heap s σ H locs → lv_has ls 4 [(0, .ref (E.a 0)), (1, .int a1), (2, .int a2), (3, .int a3)] → fX12_isMix_c2 n a1 a2 a3 σ = some (o1, o2) → W p l e rmX12_isMix s m args below meth c H locs 0 0 (MQ below (xQi E A o1 o2) args s 0 0 A) (F0 m 2 ls []) := by
    intro n2
    induction n2 with
    | zero => intro a1 a2 a3 σ H locs ls hw hl hf; exact nomatch hf
    | succ n2 ih2 =>
      intro a1 a2 a3 σ H locs ls hw hl hf
      rw [fX12_isMix_c2_s] at hf
      refine lv_iload_n hx hb dX12_isMix_2 rfl (lv_at hl 3 rfl) ?_
      refine lv_iconst (v := 4) hx hb dX12_isMix_3 (by decide) ?_
      refine lv_icmp_ge (tgt := 43) hx hb dX12_isMix_4 (by decide) (fun c4 => ?_) (fun c4 => ?_)
      · replace hf := xif_pos c4 hf
        refine lv_aload_n hx hb dX12_isMix_43 rfl (lv_at hl 0 rfl) ?_
        refine lv_iconst (v := (-1)) hx hb dX12_isMix_44 (by decide) ?_
        obtain ⟨r1, σ2, hcl, hf⟩ := xc2_f hf
        refine x_calli (va_runV (As := [.int (-1)]) (rest := []) ⟨hx, hb, hml, hown, hts⟩ (mX12_sumOf hE (-1) σ r1 σ2 hcl H.size) (cwV 1 hts gX12_isMix_X12_sumOf rfl rfl rfl (by decide +kernel) ⟨Nat.le_of_ble_eq_true rfl, Nat.le_of_ble_eq_true rfl⟩) (x_preV _ hw hA hG (cM0 hE) rfl) rfl rfl hl.1 rfl (lv_room (Nat.le_of_ble_eq_true rfl)) dX12_isMix_45 ⟨Nat.le_of_ble_eq_true rfl, Nat.le_of_ble_eq_true rfl⟩) hw hA (fun H locs hw => ?_)
        clear hcl
        refine lv_bipush (v := 100) hx hb dX12_isMix_48 (by decide) ?_
        refine lv_aload_n hx hb dX12_isMix_50 rfl (lv_at hl 0 rfl) ?_
        refine x_geti hx hb hw (cM0 hE) (own := RX12) (ref := RX12) (C := RX12) (T := TX12) (N := 20) hts hiX12 hown rfl 14 (by decide) hk148 (fun _ h9 => h9) rfl dX12_isMix_51 ?_
        refine lv_imul hx hb dX12_isMix_54 ?_
        refine lv_icmp_ne (tgt := 93) hx hb dX12_isMix_55 (by decide) (fun c55 => ?_) (fun c55 => ?_)
        · replace hf := xif_neg c55 hf
          refine lv_iconst (v := 0) hx hb dX12_isMix_93 (by decide) ?_
          exact x_zretc hx hb hr hlk hw (by decide) hf dX12_isMix_94
        · replace hf := xif_pos c55 hf
          refine lv_aload_n hx hb dX12_isMix_58 rfl (lv_at hl 0 rfl) ?_
          refine lv_sipush (v := 247) hx hb dX12_isMix_59 (by decide) ?_
          obtain ⟨r3, σ4, hcl, hf⟩ := xc2_f hf
          refine x_calli (va_runV (As := [.int 247]) (rest := []) ⟨hx, hb, hml, hown, hts⟩ (mX12_sumOf hE 247 σ2 r3 σ4 hcl H.size) (cwV 1 hts gX12_isMix_X12_sumOf rfl rfl rfl (by decide +kernel) ⟨Nat.le_of_ble_eq_true rfl, Nat.le_of_ble_eq_true rfl⟩) (x_preV _ hw hA hG (cM0 hE) rfl) rfl rfl hl.1 rfl (lv_room (Nat.le_of_ble_eq_true rfl)) dX12_isMix_62 ⟨Nat.le_of_ble_eq_true rfl, Nat.le_of_ble_eq_true rfl⟩) hw hA (fun H locs hw => ?_)
          clear hcl
          refine lv_bipush (v := 100) hx hb dX12_isMix_65 (by decide) ?_
          refine lv_iload_n hx hb dX12_isMix_67 rfl (lv_at hl 1 rfl) ?_
          refine lv_imul hx hb dX12_isMix_68 ?_
          refine lv_aload_n hx hb dX12_isMix_69 rfl (lv_at hl 0 rfl) ?_
          refine x_geti hx hb hw (cM0 hE) (own := RX12) (ref := RX12) (C := RX12) (T := TX12) (N := 20) hts hiX12 hown rfl 14 (by decide) hk148 (fun _ h9 => h9) rfl dX12_isMix_70 ?_
          refine lv_imul hx hb dX12_isMix_73 ?_
          refine lv_bipush (v := 100) hx hb dX12_isMix_74 (by decide) ?_
          refine lv_iload_n hx hb dX12_isMix_76 rfl (lv_at hl 2 rfl) ?_
          refine lv_imul hx hb dX12_isMix_77 ?_
          refine lv_aload_n hx hb dX12_isMix_78 rfl (lv_at hl 0 rfl) ?_
          refine x_geti hx hb hw (cM0 hE) (own := RX12) (ref := RX12) (C := RX12) (T := TX12) (N := 20) hts hiX12 hown rfl 14 (by decide) hk148 (fun _ h9 => h9) rfl dX12_isMix_79 ?_
          refine lv_imul hx hb dX12_isMix_82 ?_
          obtain ⟨r5, σ6, hcl, hf⟩ := xc2_f hf
          refine x_calli (va_runS (As := [.int r3, .int ((100 * a1) * (σ4 0 14)), .int ((100 * a2) * (σ4 0 14))]) (rest := []) ⟨hx, hb, hml, hown, hts⟩ (mX12_in hE r3 ((100 * a1) * (σ4 0 14)) ((100 * a2) * (σ4 0 14)) σ4 r5 σ6 hcl H.size) (va_cwS 3 hts gX12_isMix_X12_in rfl rfl rfl (by decide +kernel) ⟨Nat.le_of_ble_eq_true rfl, Nat.le_of_ble_eq_true rfl⟩) (x_preS _ hw hA hG) rfl rfl hl.1 rfl (lv_room (Nat.le_of_ble_eq_true rfl)) dX12_isMix_83 ⟨Nat.le_of_ble_eq_true rfl, Nat.le_of_ble_eq_true rfl⟩) hw hA (fun H locs hw => ?_)
          clear hcl
          refine lv_if_eq (tgt := 93) hx hb dX12_isMix_86 (by decide) (fun c86 => ?_) (fun c86 => ?_)
          · replace hf := xif_pos c86 hf
            refine lv_iconst (v := 0) hx hb dX12_isMix_93 (by decide) ?_
            exact x_zretc hx hb hr hlk hw (by decide) hf dX12_isMix_94
          · replace hf := xif_neg c86 hf
            refine lv_iconst (v := 1) hx hb dX12_isMix_89 (by decide) ?_
            refine lv_goto (tgt := 94) hx hb dX12_isMix_90 (by decide) ?_
            exact x_zretc hx hb hr hlk hw (by decide) hf dX12_isMix_94
      · replace hf := xif_neg c4 hf
        refine lv_aload_n hx hb dX12_isMix_7 rfl (lv_at hl 0 rfl) ?_
        refine x_getr hx hb hw (cM0 hE) (own := RX12) (ref := RX12) (C := RX12) (T := TX12) (N := 20) hts hiX12 hown rfl 12 (by decide) hk34 (fun _ h9 => h9) rfl dX12_isMix_8 ?_
        refine lv_iload_n hx hb dX12_isMix_11 rfl (lv_at hl 3 rfl) ?_
        obtain ⟨hin, hf⟩ := xr_f hf
        refine x_iald hx hb hw (cM9 hE) hin dX12_isMix_12 ?_
        refine lv_topi (fun v7 ex => ?_)
        replace hf := hf v7 ex
        clear ex hin
        refine lv_iconst (v := 0) hx hb dX12_isMix_13 (by decide) ?_
        refine lv_aload_n hx hb dX12_isMix_14 rfl (lv_at hl 0 rfl) ?_
        refine x_getr hx hb hw (cM0 hE) (own := RX12) (ref := RX12) (C := RX12) (T := TX12) (N := 20) hts hiX12 hown rfl 1 (by decide) hk9 (fun _ h9 => h9) rfl dX12_isMix_15 ?_
        refine lv_sipush (v := 255) hx hb dX12_isMix_18 (by decide) ?_
        refine lv_iload_n hx hb dX12_isMix_21 rfl (lv_at hl 3 rfl) ?_
        refine lv_iadd hx hb dX12_isMix_22 ?_
        obtain ⟨hin, hf⟩ := xr_f hf
        refine x_iald hx hb hw (cM1 hE) hin dX12_isMix_23 ?_
        refine lv_topi (fun v8 ex => ?_)
        replace hf := hf v8 ex
        clear ex hin
        refine lv_aload_n hx hb dX12_isMix_24 rfl (lv_at hl 0 rfl) ?_
        refine x_geti hx hb hw (cM0 hE) (own := RX12) (ref := RX12) (C := RX12) (T := TX12) (N := 20) hts hiX12 hown rfl 14 (by decide) hk148 (fun _ h9 => h9) rfl dX12_isMix_25 ?_
        refine lv_imul hx hb dX12_isMix_28 ?_
        obtain ⟨r9, σ10, hcl, hf⟩ := xc2_f hf
        refine x_calli (va_runS (As := [.int v7, .int 0, .int (v8 * (σ 0 14))]) (rest := []) ⟨hx, hb, hml, hown, hts⟩ (mX12_in hE v7 0 (v8 * (σ 0 14)) σ r9 σ10 hcl H.size) (va_cwS 3 hts gX12_isMix_X12_in rfl rfl rfl (by decide +kernel) ⟨Nat.le_of_ble_eq_true rfl, Nat.le_of_ble_eq_true rfl⟩) (x_preS _ hw hA hG) rfl rfl hl.1 rfl (lv_room (Nat.le_of_ble_eq_true rfl)) dX12_isMix_29 ⟨Nat.le_of_ble_eq_true rfl, Nat.le_of_ble_eq_true rfl⟩) hw hA (fun H locs hw => ?_)
        clear hcl
        refine lv_if_ne (tgt := 37) hx hb dX12_isMix_32 (by decide) (fun c32 => ?_) (fun c32 => ?_)
        · replace hf := xif_neg c32 hf
          obtain ⟨v11, ex⟩ : ∃ y : Int32, y = (a3 + 1) := ⟨_, rfl⟩
          replace hf := xl_f hf v11 ex
          refine lv_iinc (v := v11) (lv' := [(3, .int v11), (0, .ref (E.a 0)), (1, .int a1), (2, .int a2)]) hx hb dX12_isMix_37 hl (k := 3) rfl (by rw [ex]; rfl) (by decide) rfl (fun ls hl => ?_)
          clear ex
          refine lv_goto (tgt := 2) hx hb dX12_isMix_40 (by decide) ?_
          exact ih2 a1 a2 v11 σ10 _ _ _ hw (lv_sub hl [1, 2, 3, 0] rfl) hf
        · replace hf := xif_pos c32 hf
          refine lv_iconst (v := 0) hx hb dX12_isMix_35 (by decide) ?_
          exact x_zretc hx hb hr hlk hw (by decide) hf dX12_isMix_36
  refine lv_iconst (v := 0) hx hb dX12_isMix_0 (by decide) ?_
  refine lv_istore_n (lv' := [(3, .int 0), (0, .ref (E.a 0)), (1, .int p0), (2, .int p1)]) hx hb dX12_isMix_1 rfl hl (by decide) rfl (fun ls hl => ?_)
  exact h2 xFU p0 p1 0 σ _ _ _ hw (lv_sub hl [1, 2, 3, 0] rfl) hf

def fX12_bestCost_c4 : Nat → Int32 → Int32 → xSt → Option (Int32 × xSt)
  | 0 => fun _ _ _ => none
  | n + 1 => fun a1 a2 σ => (if 4 ≤ a2 then some (a1, σ) else (xr σ 10 4 a2 fun v1 => (xr σ 1 680 (251 + a2) fun v2 => (xl (a1 + (v1 * v2)) fun v3 => (xl (a2 + 1) fun v4 => fX12_bestCost_c4 n v3 v4 σ)))))
theorem fX12_bestCost_c4_s (n : Nat) (a1 : Int32) (a2 : Int32) (σ : xSt) : fX12_bestCost_c4 (n + 1) a1 a2 σ = ((if 4 ≤ a2 then some (a1, σ) else (xr σ 10 4 a2 fun v1 => (xr σ 1 680 (251 + a2) fun v2 => (xl (a1 + (v1 * v2)) fun v3 => (xl (a2 + 1) fun v4 => fX12_bestCost_c4 n v3 v4 σ))))) : Option (Int32 × xSt)) := rfl
def fX12_bestCost (σ : xSt) : Option (Int32 × xSt) := fX12_bestCost_c4 xFU 0 0 σ
abbrev rmX12_bestCost : Room := { frames := 0, cells := 0, slots := 0, locals := 0 }
set_option maxRecDepth 100000 in
set_option maxHeartbeats 4000000 in
theorem mX12_bestCost {l : Launch} {E : xE} (hE : E.sh = shM) (σ : xSt) (o1 : Int32) (o2 : xSt) (hf : fX12_bestCost σ = some (o1, o2)) : xMi l yX12_bestCost wsX12_bestCost rmX12_bestCost E [.ref (E.a 0)] σ o1 o2 := by
  unfold fX12_bestCost at hf
  refine xMi_of (cc := cX12_bestCost) (maxL := 3) (ret := (some .int)) (by decide) rfl (Nat.le_of_ble_eq_true rfl) ?_
  intro p e s m args below meth c A ls ⟨hx, hb, hr, hml, hown, hts, hlk⟩ hA hG hw hl
  have hown : s.vm.findClass RX12 = some m.cls := hown
  have hl : lv_has ls 3 [(0, .ref (E.a 0))] := hl
  have hk37 := hts (.fieldLink RX12 37 "OvenRoundModel" "best" "[I") (by decide +kernel)
  have hiX12 : ∀ w ∈ wsX120, w ∈ wsX12_bestCost := by decide +kernel
  have hk9 := hts (.fieldLink RX12 9 "OvenRoundModel" "w" "[I") (by decide +kernel)
  have h4 : ∀ (n : Nat) (a1 : Int32) (a2 : Int32) (σ : xSt) (H : Heap) (locs : List Loc) (ls : Array Slot), xw E A s.heap s σ H locs → lv_has ls 3 [(0, .ref (E.a 0)), (1, .int a1), (2, .int a2)] → fX12_bestCost_c4 n a1 a2 σ = some (o1, o2) → W p l e rmX12_bestCost s m args below meth c H locs 0 0 (MQ below (xQi E A o1 o2) args s 0 0 A) (F0 m 4 ls []) := by
    intro n4
    induction n4 with
    | zero => intro a1 a2 σ H locs ls hw hl hf; exact nomatch hf
    | succ n4 ih4 =>
      intro a1 a2 σ H locs ls hw hl hf
      rw [fX12_bestCost_c4_s] at hf
      refine lv_iload_n hx hb dX12_bestCost_4 rfl (lv_at hl 2 rfl) ?_
      refine lv_iconst (v := 4) hx hb dX12_bestCost_5 (by decide) ?_
      refine lv_icmp_ge (tgt := 35) hx hb dX12_bestCost_6 (by decide) (fun c6 => ?_) (fun c6 => ?_)
      · replace hf := xif_pos c6 hf
        refine lv_iload_n hx hb dX12_bestCost_35 rfl (lv_at hl 1 rfl) ?_
        exact x_iret hx hb hr hlk hw hf dX12_bestCost_36
      · replace hf := xif_neg c6 hf
        refine lv_iload_n hx hb dX12_bestCost_9 rfl (lv_at hl 1 rfl) ?_
        refine lv_aload_n hx hb dX12_bestCost_10 rfl (lv_at hl 0 rfl) ?_
        refine x_getr hx hb hw (cM0 hE) (own := RX12) (ref := RX12) (C := RX12) (T := TX12) (N := 20) hts hiX12 hown rfl 13 (by decide) hk37 (fun _ h9 => h9) rfl dX12_bestCost_11 ?_
        refine lv_iload_n hx hb dX12_bestCost_14 rfl (lv_at hl 2 rfl) ?_
        obtain ⟨hin, hf⟩ := xr_f hf
        refine x_iald hx hb hw (cM10 hE) hin dX12_bestCost_15 ?_
        refine lv_topi (fun v1 ex => ?_)
        replace hf := hf v1 ex
        clear ex hin
        refine lv_aload_n hx hb dX12_bestCost_16 rfl (lv_at hl 0 rfl) ?_
        refine x_getr hx hb hw (cM0 hE) (own := RX12) (ref := RX12) (C := RX12) (T := TX12) (N := 20) hts hiX12 hown rfl 1 (by decide) hk9 (fun _ h9 => h9) rfl dX12_bestCost_17 ?_
        refine lv_sipush (v := 251) hx hb dX12_bestCost_20 (by decide) ?_
        refine lv_iload_n hx hb dX12_bestCost_23 rfl (lv_at hl 2 rfl) ?_
        refine lv_iadd hx hb dX12_bestCost_24 ?_
        obtain ⟨hin, hf⟩ := xr_f hf
        refine x_iald hx hb hw (cM1 hE) hin dX12_bestCost_25 ?_
        refine lv_topi (fun v2 ex => ?_)
        replace hf := hf v2 ex
        clear ex hin
        refine lv_imul hx hb dX12_bestCost_26 ?_
        refine lv_iadd hx hb dX12_bestCost_27 ?_
        refine lv_topi (fun v3 ex => ?_)
        replace hf := xl_f hf v3 ex
        clear ex
        refine lv_istore_n (lv' := [(1, .int v3), (0, .ref (E.a 0)), (2, .int a2)]) hx hb dX12_bestCost_28 rfl hl (by decide) rfl (fun ls hl => ?_)
        obtain ⟨v4, ex⟩ : ∃ y : Int32, y = (a2 + 1) := ⟨_, rfl⟩
        replace hf := xl_f hf v4 ex
        refine lv_iinc (v := v4) (lv' := [(2, .int v4), (1, .int v3), (0, .ref (E.a 0))]) hx hb dX12_bestCost_29 hl (k := 2) rfl (by rw [ex]; rfl) (by decide) rfl (fun ls hl => ?_)
        clear ex
        refine lv_goto (tgt := 4) hx hb dX12_bestCost_32 (by decide) ?_
        exact ih4 v3 v4 σ _ _ _ hw (lv_sub hl [2, 1, 0] rfl) hf
  refine lv_iconst (v := 0) hx hb dX12_bestCost_0 (by decide) ?_
  refine lv_istore_n (lv' := [(1, .int 0), (0, .ref (E.a 0))]) hx hb dX12_bestCost_1 rfl hl (by decide) rfl (fun ls hl => ?_)
  refine lv_iconst (v := 0) hx hb dX12_bestCost_2 (by decide) ?_
  refine lv_istore_n (lv' := [(2, .int 0), (1, .int 0), (0, .ref (E.a 0))]) hx hb dX12_bestCost_3 rfl hl (by decide) rfl (fun ls hl => ?_)
  exact h4 xFU 0 0 σ _ _ _ hw (lv_sub hl [2, 1, 0] rfl) hf
