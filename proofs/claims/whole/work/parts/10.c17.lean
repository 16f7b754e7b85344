def fX12_note_c49 (a1 : Int32) (a2 : Int32) (t0 : Int32) (σ : xSt) : Option (Int32 × xSt) := (xc2 (fX12_can t0 3 σ) fun r10 σ11 => (if r10 = 0 then some (0, σ11) else (xc (fX12_keep σ11) fun σ13 => (xr σ13 1 680 (259 + a1) fun v14 => (xs σ13 1 680 ((265 + (60 * a1)) + v14) a2 fun σ15 => (xl (259 + a1) fun v16 => (xr σ15 1 680 v16 fun v17 => (xs σ15 1 680 v16 (v17 + 1) fun σ18 => (xr σ18 1 680 (259 + a1) fun v19 => some (v19, σ18))))))))))
def fX12_note (p0 : Int32) (p1 : Int32) (σ : xSt) : Option (Int32 × xSt) := (xc2 (fX12_isRecipe p0 σ) fun r1 σ2 => (xc2 (fX12_can r1 1 σ2) fun r3 σ4 => (if r3 = 0 then some (0, σ4) else (xc2 (fX12_in p1 0 99 σ4) fun r5 σ6 => (xc2 (fX12_can r5 2 σ6) fun r7 σ8 => (if r7 = 0 then some (0, σ8) else (xr σ8 1 680 (259 + p0) fun v9 => (if 60 ≤ v9 then fX12_note_c49 p0 p1 0 σ8 else fX12_note_c49 p0 p1 1 σ8))))))))
abbrev rmX12_note : Room := { frames := 2, cells := 0, slots := 0, locals := 43 }
set_option maxRecDepth 100000 in
set_option maxHeartbeats 4000000 in
theorem mX12_note {l : Launch} {E : xE} (hE : E.sh = shM) (p0 : Int32) (p1 : Int32) (σ : xSt) (o1 : Int32) (o2 : xSt) (hf : fX12_note p0 p1 σ = some (o1, o2)) : xMi l yX12_note wsX12_note rmX12_note E [.ref (E.a 0), .int p0, .int p1] σ o1 o2 := by
  unfold fX12_note at hf
  refine xMi_of (cc := cX12_note) (maxL := 3) (ret := (some .int)) (by decide) rfl (Nat.le_of_ble_eq_true rfl) ?_
  intro p e s m args below meth c A ls ⟨hx, hb, hr, hml, hown, hts, hlk⟩ hA hG hw hl
  have hown : s.vm.findClass RX12 = some m.cls := hown
  have hl : lv_has ls 3 [(0, .ref (E.a 0)), (1, .int p0), (2, .int p1)] := hl
  have hk9 := hts (.fieldLink RX12 9 "OvenRoundModel" "w" "[I") (by decide +kernel)
  have hiX12 : ∀ w ∈ wsX120, w ∈ wsX12_note := by decide +kernel
  have h49 : ∀ (a1 : Int32) (a2 : Int32) (t0 : Int32) (σ : xSt) (H : Heap) (locs : List Loc) (ls : Array Slot), xw E A s.heap s σ H locs → lv_has ls 3 [(0, .ref (E.a 0)), (1, .int a1), (2, .int a2)] → fX12_note_c49 a1 a2 t0 σ = some (o1, o2) → W p l e rmX12_note s m args below meth c H locs 0 0 (MQ below (xQi E A o1 o2) args s 0 0 A) (F0 m 49 ls [.int t0, .ref (E.a 0)]) := by
    intro a1 a2 t0 σ H locs ls hw hl hf
    unfold fX12_note_c49 at hf
    refine lv_iconst (v := 3) hx hb dX12_note_49 (by decide) ?_
    obtain ⟨r10, σ11, hcl, hf⟩ := xc2_f hf
    refine x_calli (va_runV (As := [.int t0, .int 3]) (rest := []) ⟨hx, hb, hml, hown, hts⟩ (mX12_can hE t0 3 σ r10 σ11 hcl H.size) (cwV 2 hts gX12_note_X12_can rfl rfl rfl (by decide +kernel) ⟨Nat.le_of_ble_eq_true rfl, Nat.le_of_ble_eq_true rfl⟩) (x_preV _ hw hA hG (cM0 hE) rfl) rfl rfl hl.1 rfl (lv_room (Nat.le_of_ble_eq_true rfl)) dX12_note_50 ⟨Nat.le_of_ble_eq_true rfl, Nat.le_of_ble_eq_true rfl⟩) hw hA (fun H locs hw => ?_)
    clear hcl
    refine lv_if_ne (tgt := 58) hx hb dX12_note_53 (by decide) (fun c53 => ?_) (fun c53 => ?_)
    · replace hf := xif_neg c53 hf
      refine lv_aload_n hx hb dX12_note_58 rfl (lv_at hl 0 rfl) ?_
      obtain ⟨σ13, hcl, hf⟩ := xc_e hf
      refine x_callv (va_runV (As := []) (rest := []) ⟨hx, hb, hml, hown, hts⟩ (mX12_keep hE σ11 σ13 hcl H.size) (cwV 0 hts gX12_note_X12_keep rfl rfl rfl (by decide +kernel) ⟨Nat.le_of_ble_eq_true rfl, Nat.le_of_ble_eq_true rfl⟩) (x_preV _ hw hA hG (cM0 hE) rfl) rfl rfl hl.1 rfl (lv_room (Nat.le_of_ble_eq_true rfl)) dX12_note_59 ⟨Nat.le_of_ble_eq_true rfl, Nat.le_of_ble_eq_true rfl⟩) hw hA (fun H locs hw => ?_)
      clear hcl
      refine lv_aload_n hx hb dX12_note_62 rfl (lv_at hl 0 rfl) ?_
      refine x_getr hx hb hw (cM0 hE) (own := RX12) (ref := RX12) (C := RX12) (T := TX12) (N := 20) hts hiX12 hown rfl 1 (by decide) hk9 (fun _ h9 => h9) rfl dX12_note_63 ?_
      refine lv_sipush (v := 265) hx hb dX12_note_66 (by decide) ?_
      refine lv_bipush (v := 60) hx hb dX12_note_69 (by decide) ?_
      refine lv_iload_n hx hb dX12_note_71 rfl (lv_at hl 1 rfl) ?_
      refine lv_imul hx hb dX12_note_72 ?_
      refine lv_iadd hx hb dX12_note_73 ?_
      refine lv_aload_n hx hb dX12_note_74 rfl (lv_at hl 0 rfl) ?_
      refine x_getr hx hb hw (cM0 hE) (own := RX12) (ref := RX12) (C := RX12) (T := TX12) (N := 20) hts hiX12 hown rfl 1 (by decide) hk9 (fun _ h9 => h9) rfl dX12_note_75 ?_
      refine lv_sipush (v := 259) hx hb dX12_note_78 (by decide) ?_
      refine lv_iload_n hx hb dX12_note_81 rfl (lv_at hl 1 rfl) ?_
      refine lv_iadd hx hb dX12_note_82 ?_
      obtain ⟨hin, hf⟩ := xr_f hf
      refine x_iald hx hb hw (cM1 hE) hin dX12_note_83 ?_
      refine lv_topi (fun v14 ex => ?_)
      replace hf := hf v14 ex
      clear ex hin
      refine lv_iadd hx hb dX12_note_84 ?_
      refine lv_iload_n hx hb dX12_note_85 rfl (lv_at hl 2 rfl) ?_
      obtain ⟨hin, hf⟩ := xs_f hf
      refine x_iast hx hb hw (cM1 hE) hin dX12_note_86 (fun σ15 H locs ex hw => ?_)
      replace hf := hf σ15 ex
      clear ex hin
      refine lv_aload_n hx hb dX12_note_87 rfl (lv_at hl 0 rfl) ?_
      refine x_getr hx hb hw (cM0 hE) (own := RX12) (ref := RX12) (C := RX12) (T := TX12) (N := 20) hts hiX12 hown rfl 1 (by decide) hk9 (fun _ h9 => h9) rfl dX12_note_88 ?_
      refine lv_sipush (v := 259) hx hb dX12_note_91 (by decide) ?_
      refine lv_iload_n hx hb dX12_note_94 rfl (lv_at hl 1 rfl) ?_
      refine lv_iadd hx hb dX12_note_95 ?_
      refine lv_topi (fun v16 ex => ?_)
      replace hf := xl_f hf v16 ex
      clear ex
      refine lv_dup2_11 hx hb dX12_note_96 rfl rfl ?_
      obtain ⟨hin, hf⟩ := xr_f hf
      refine x_iald hx hb hw (cM1 hE) hin dX12_note_97 ?_
      refine lv_topi (fun v17 ex => ?_)
      replace hf := hf v17 ex
      clear ex hin
      refine lv_iconst (v := 1) hx hb dX12_note_98 (by decide) ?_
      refine lv_iadd hx hb dX12_note_99 ?_
      obtain ⟨hin, hf⟩ := xs_f hf
      refine x_iast hx hb hw (cM1 hE) hin dX12_note_100 (fun σ18 H locs ex hw => ?_)
      replace hf := hf σ18 ex
      clear ex hin
      refine lv_aload_n hx hb dX12_note_101 rfl (lv_at hl 0 rfl) ?_
      refine x_getr hx hb hw (cM0 hE) (own := RX12) (ref := RX12) (C := RX12) (T := TX12) (N := 20) hts hiX12 hown rfl 1 (by decide) hk9 (fun _ h9 => h9) rfl dX12_note_102 ?_
      refine lv_sipush (v := 259) hx hb dX12_note_105 (by decide) ?_
      refine lv_iload_n hx hb dX12_note_108 rfl (lv_at hl 1 rfl) ?_
      refine lv_iadd hx hb dX12_note_109 ?_
      obtain ⟨hin, hf⟩ := xr_f hf
      refine x_iald hx hb hw (cM1 hE) hin dX12_note_110 ?_
      refine lv_topi (fun v19 ex => ?_)
      replace hf := hf v19 ex
      clear ex hin
      exact x_iret hx hb hr hlk hw hf dX12_note_111
    · replace hf := xif_pos c53 hf
      refine lv_iconst (v := 0) hx hb dX12_note_56 (by decide) ?_
      exact x_iret hx hb hr hlk hw hf dX12_note_57
  refine lv_aload_n hx hb dX12_note_0 rfl (lv_at hl 0 rfl) ?_
  refine lv_aload_n hx hb dX12_note_1 rfl (lv_at hl 0 rfl) ?_
  refine lv_iload_n hx hb dX12_note_2 rfl (lv_at hl 1 rfl) ?_
  obtain ⟨r1, σ2, hcl, hf⟩ := xc2_f hf
  refine x_calli (va_runV (As := [.int p0]) (rest := [.ref (E.a 0)]) ⟨hx, hb, hml, hown, hts⟩ (mX12_isRecipe hE p0 σ r1 σ2 hcl s.heap.size) (cwV 1 hts gX12_note_X12_isRecipe rfl rfl rfl (by decide +kernel) ⟨Nat.le_of_ble_eq_true rfl, Nat.le_of_ble_eq_true rfl⟩) (x_preV _ hw hA hG (cM0 hE) rfl) rfl rfl hl.1 rfl (lv_room (Nat.le_of_ble_eq_true rfl)) dX12_note_3 ⟨Nat.le_of_ble_eq_true rfl, Nat.le_of_ble_eq_true rfl⟩) hw hA (fun H locs hw => ?_)
  clear hcl
  refine lv_iconst (v := 1) hx hb dX12_note_6 (by decide) ?_
  obtain ⟨r3, σ4, hcl, hf⟩ := xc2_f hf
  refine x_calli (va_runV (As := [.int r1, .int 1]) (rest := []) ⟨hx, hb, hml, hown, hts⟩ (mX12_can hE r1 1 σ2 r3 σ4 hcl H.size) (cwV 2 hts gX12_note_X12_can rfl rfl rfl (by decide +kernel) ⟨Nat.le_of_ble_eq_true rfl, Nat.le_of_ble_eq_true rfl⟩) (x_preV _ hw hA hG (cM0 hE) rfl) rfl rfl hl.1 rfl (lv_room (Nat.le_of_ble_eq_true rfl)) dX12_note_7 ⟨Nat.le_of_ble_eq_true rfl, Nat.le_of_ble_eq_true rfl⟩) hw hA (fun H locs hw => ?_)
  clear hcl
  refine lv_if_eq (tgt := 56) hx hb dX12_note_10 (by decide) (fun c10 => ?_) (fun c10 => ?_)
  · replace hf := xif_pos c10 hf
    refine lv_iconst (v := 0) hx hb dX12_note_56 (by decide) ?_
    exact x_iret hx hb hr hlk hw hf dX12_note_57
  · replace hf := xif_neg c10 hf
    refine lv_aload_n hx hb dX12_note_13 rfl (lv_at hl 0 rfl) ?_
    refine lv_iload_n hx hb dX12_note_14 rfl (lv_at hl 2 rfl) ?_
    refine lv_iconst (v := 0) hx hb dX12_note_15 (by decide) ?_
    refine lv_bipush (v := 99) hx hb dX12_note_16 (by decide) ?_
    obtain ⟨r5, σ6, hcl, hf⟩ := xc2_f hf
    refine x_calli (va_runS (As := [.int p1, .int 0, .int 99]) (rest := [.ref (E.a 0)]) ⟨hx, hb, hml, hown, hts⟩ (mX12_in hE p1 0 99 σ4 r5 σ6 hcl H.size) (va_cwS 3 hts gX12_note_X12_in rfl rfl rfl (by decide +kernel) ⟨Nat.le_of_ble_eq_true rfl, Nat.le_of_ble_eq_true rfl⟩) (x_preS _ hw hA hG) rfl rfl hl.1 rfl (lv_room (Nat.le_of_ble_eq_true rfl)) dX12_note_18 ⟨Nat.le_of_ble_eq_true rfl, Nat.le_of_ble_eq_true rfl⟩) hw hA (fun H locs hw => ?_)
    clear hcl
    refine lv_iconst (v := 2) hx hb dX12_note_21 (by decide) ?_
    obtain ⟨r7, σ8, hcl, hf⟩ := xc2_f hf
    refine x_calli (va_runV (As := [.int r5, .int 2]) (rest := []) ⟨hx, hb, hml, hown, hts⟩ (mX12_can hE r5 2 σ6 r7 σ8 hcl H.size) (cwV 2 hts gX12_note_X12_can rfl rfl rfl (by decide +kernel) ⟨Nat.le_of_ble_eq_true rfl, Nat.le_of_ble_eq_true rfl⟩) (x_preV _ hw hA hG (cM0 hE) rfl) rfl rfl hl.1 rfl (lv_room (Nat.le_of_ble_eq_true rfl)) dX12_note_22 ⟨Nat.le_of_ble_eq_true rfl, Nat.le_of_ble_eq_true rfl⟩) hw hA (fun H locs hw => ?_)
    clear hcl
    refine lv_if_eq (tgt := 56) hx hb dX12_note_25 (by decide) (fun c25 => ?_) (fun c25 => ?_)
    · replace hf := xif_pos c25 hf
      refine lv_iconst (v := 0) hx hb dX12_note_56 (by decide) ?_
      exact x_iret hx hb hr hlk hw hf dX12_note_57
    · replace hf := xif_neg c25 hf
      refine lv_aload_n hx hb dX12_note_28 rfl (lv_at hl 0 rfl) ?_
      refine lv_aload_n hx hb dX12_note_29 rfl (lv_at hl 0 rfl) ?_
      refine x_getr hx hb hw (cM0 hE) (own := RX12) (ref := RX12) (C := RX12) (T := TX12) (N := 20) hts hiX12 hown rfl 1 (by decide) hk9 (fun _ h9 => h9) rfl dX12_note_30 ?_
      refine lv_sipush (v := 259) hx hb dX12_note_33 (by decide) ?_
      refine lv_iload_n hx hb dX12_note_36 rfl (lv_at hl 1 rfl) ?_
      refine lv_iadd hx hb dX12_note_37 ?_
      obtain ⟨hin, hf⟩ := xr_f hf
      refine x_iald hx hb hw (cM1 hE) hin dX12_note_38 ?_
      refine lv_topi (fun v9 ex => ?_)
      replace hf := hf v9 ex
      clear ex hin
      refine lv_bipush (v := 60) hx hb dX12_note_39 (by decide) ?_
      refine lv_icmp_ge (tgt := 48) hx hb dX12_note_41 (by decide) (fun c41 => ?_) (fun c41 => ?_)
      · replace hf := xif_pos c41 hf
        refine lv_iconst (v := 0) hx hb dX12_note_48 (by decide) ?_
        exact h49 p0 p1 0 σ8 _ _ _ hw (lv_sub hl [0, 1, 2] rfl) hf
      · replace hf := xif_neg c41 hf
        refine lv_iconst (v := 1) hx hb dX12_note_44 (by decide) ?_
        refine lv_goto (tgt := 49) hx hb dX12_note_45 (by decide) ?_
        exact h49 p0 p1 1 σ8 _ _ _ hw (lv_sub hl [0, 1, 2] rfl) hf

def fX12_lossOf_c6 : Nat → Int32 → Int32 → Int32 → Int32 → Int32 → Int32 → xSt → Option (Int32 × xSt)
  | 0 => fun _ _ _ _ _ _ _ => none
  | n + 1 => fun a1 a2 a3 a4 a5 a6 σ => (xr σ 1 680 (259 + a1) fun v1 => (if v1 ≤ a6 then some (a5, σ) else (xr σ 1 680 ((265 + (60 * a1)) + a6) fun v2 => (xl (a2 - v2) fun v3 => (if v3 ≤ 0 then (xl (a5 + (a4 * (-v3))) fun v4 => (xl (a6 + 1) fun v5 => fX12_lossOf_c6 n a1 a2 a3 a4 v4 v5 σ)) else (xl (a5 + (a3 * v3)) fun v6 => (xl (a6 + 1) fun v7 => fX12_lossOf_c6 n a1 a2 a3 a4 v6 v7 σ)))))))
theorem fX12_lossOf_c6_s (n : Nat) (a1 : Int32) (a2 : Int32) (a3 : Int32) (a4 : Int32) (a5 : Int32) (a6 : Int32) (σ : xSt) : fX12_lossOf_c6 (n + 1) a1 a2 a3 a4 a5 a6 σ = ((xr σ 1 680 (259 + a1) fun v1 => (if v1 ≤ a6 then some (a5, σ) else (xr σ 1 680 ((265 + (60 * a1)) + a6) fun v2 => (xl (a2 - v2) fun v3 => (if v3 ≤ 0 then (xl (a5 + (a4 * (-v3))) fun v4 => (xl (a6 + 1) fun v5 => fX12_lossOf_c6 n a1 a2 a3 a4 v4 v5 σ)) else (xl (a5 + (a3 * v3)) fun v6 => (xl (a6 + 1) fun v7 => fX12_lossOf_c6 n a1 a2 a3 a4 v6 v7 σ))))))) : Option (Int32 × xSt)) := rfl
def fX12_lossOf (p0 : Int32) (p1 : Int32) (p2 : Int32) (p3 : Int32) (σ : xSt) : Option (Int32 × xSt) := fX12_lossOf_c6 xFU p0 p1 p2 p3 0 0 σ
abbrev rmX12_lossOf : Room := { frames := 0, cells := 0, slots := 0, locals := 0 }
set_option maxRecDepth 100000 in
set_option maxHeartbeats 4000000 in
theorem mX12_lossOf {l : Launch} {E : xE} (hE : E.sh = shM) (p0 : Int32) (p1 : Int32) (p2 : Int32) (p3 : Int32) (σ : xSt) (o1 : Int32) (o2 : xSt) (hf : fX12_lossOf p0 p1 p2 p3 σ = some (o1, o2)) : xMi l yX12_lossOf wsX12_lossOf rmX12_lossOf E [.ref (E.a 0), .int p0, .int p1, .int p2, .int p3] σ o1 o2 := by
  unfold fX12_lossOf at hf
  refine xMi_of (cc := cX12_lossOf) (maxL := 8) (ret := (some .int)) (by decide) rfl (Nat.le_of_ble_eq_true rfl) ?_
  intro p e s m args below meth c A ls ⟨hx, hb, hr, hml, hown, hts, hlk⟩ hA hG hw hl
  have hown : s.vm.findClass RX12 = some m.cls := hown
  have hl : lv_has ls 8 [(0, .ref (E.a 0)), (1, .int p0), (2, .int p1), (3, .int p2), (4, .int p3)] := hl
  have hk9 := hts (.fieldLink RX12 9 "OvenRoundModel" "w" "[I") (by decide +kernel)
  have hiX12 : ∀ w ∈ wsX120, w ∈ wsX12_lossOf := by decide +kernel
  have h6 : ∀ (n : Nat) (a1 : Int32) (a2 : Int32) (a3 : Int32) (a4 : Int32) (a5 : Int32) (a6 : Int32) (σ : xSt) (H : Heap) (locs : List Loc) (ls : Array Slot), xw E A s.heap s σ H locs → lv_has ls 8 [(0, .ref (E.a 0)), (1, .int a1), (2, .int a2), (3, .int a3), (4, .int a4), (5, .int a5), (6, .int a6)] → fX12_lossOf_c6 n a1 a2 a3 a4 a5 a6 σ = some (o1, o2) → W p l e rmX12_lossOf s m args below meth c H locs 0 0 (MQ below (xQi E A o1 o2) args s 0 0 A) (F0 m 6 ls []) := by
    intro n6
    induction n6 with
    | zero => intro a1 a2 a3 a4 a5 a6 σ H locs ls hw hl hf; exact nomatch hf
    | succ n6 ih6 =>
      intro a1 a2 a3 a4 a5 a6 σ H locs ls hw hl hf
      rw [fX12_lossOf_c6_s] at hf
      refine lv_iload hx hb dX12_lossOf_6 (lv_at hl 6 rfl) ?_
      refine lv_aload_n hx hb dX12_lossOf_8 rfl (lv_at hl 0 rfl) ?_
      refine x_getr hx hb hw (cM0 hE) (own := RX12) (ref := RX12) (C := RX12) (T := TX12) (N := 20) hts hiX12 hown rfl 1 (by decide) hk9 (fun _ h9 => h9) rfl dX12_lossOf_9 ?_
      refine lv_sipush (v := 259) hx hb dX12_lossOf_12 (by decide) ?_
      refine lv_iload_n hx hb dX12_lossOf_15 rfl (lv_at hl 1 rfl) ?_
      refine lv_iadd hx hb dX12_lossOf_16 ?_
      obtain ⟨hin, hf⟩ := xr_f hf
      refine x_iald hx hb hw (cM1 hE) hin dX12_lossOf_17 ?_
      refine lv_topi (fun v1 ex => ?_)
      replace hf := hf v1 ex
      clear ex hin
      refine lv_icmp_ge (tgt := 70) hx hb dX12_lossOf_18 (by decide) (fun c18 => ?_) (fun c18 => ?_)
      · replace hf := xif_pos c18 hf
        refine lv_iload hx hb dX12_lossOf_70 (lv_at hl 5 rfl) ?_
        exact x_iret hx hb hr hlk hw hf dX12_lossOf_72
      · replace hf := xif_neg c18 hf
        refine lv_iload_n hx hb dX12_lossOf_21 rfl (lv_at hl 2 rfl) ?_
        refine lv_aload_n hx hb dX12_lossOf_22 rfl (lv_at hl 0 rfl) ?_
        refine x_getr hx hb hw (cM0 hE) (own := RX12) (ref := RX12) (C := RX12) (T := TX12) (N := 20) hts hiX12 hown rfl 1 (by decide) hk9 (fun _ h9 => h9) rfl dX12_lossOf_23 ?_
        refine lv_sipush (v := 265) hx hb dX12_lossOf_26 (by decide) ?_
        refine lv_bipush (v := 60) hx hb dX12_lossOf_29 (by decide) ?_
        refine lv_iload_n hx hb dX12_lossOf_31 rfl (lv_at hl 1 rfl) ?_
        refine lv_imul hx hb dX12_lossOf_32 ?_
        refine lv_iadd hx hb dX12_lossOf_33 ?_
        refine lv_iload hx hb dX12_lossOf_34 (lv_at hl 6 rfl) ?_
        refine lv_iadd hx hb dX12_lossOf_36 ?_
        obtain ⟨hin, hf⟩ := xr_f hf
        refine x_iald hx hb hw (cM1 hE) hin dX12_lossOf_37 ?_
        refine lv_topi (fun v2 ex => ?_)
        replace hf := hf v2 ex
        clear ex hin
        refine lv_isub hx hb dX12_lossOf_38 ?_
        refine lv_topi (fun v3 ex => ?_)
        replace hf := xl_f hf v3 ex
        clear ex
        refine lv_istore (lv' := [(7, .int v3), (0, .ref (E.a 0)), (1, .int a1), (2, .int a2), (3, .int a3), (4, .int a4), (5, .int a5), (6, .int a6)]) hx hb dX12_lossOf_39 hl (by decide) rfl (fun ls hl => ?_)
        refine lv_iload hx hb dX12_lossOf_41 (lv_at hl 6 rfl) ?_
        refine lv_iload hx hb dX12_lossOf_43 (lv_at hl 0 rfl) ?_
        refine lv_if_le (tgt := 55) hx hb dX12_lossOf_45 (by decide) (fun c45 => ?_) (fun c45 => ?_)
        · replace hf := xif_pos c45 hf
          refine lv_iload hx hb dX12_lossOf_55 (lv_at hl 5 rfl) ?_
          refine lv_iload hx hb dX12_lossOf_57 (lv_at hl 0 rfl) ?_
          refine lv_ineg hx hb dX12_lossOf_59 ?_
          refine lv_imul hx hb dX12_lossOf_60 ?_
          refine lv_iadd hx hb dX12_lossOf_61 ?_
          refine lv_topi (fun v4 ex => ?_)
          replace hf := xl_f hf v4 ex
          clear ex
          refine lv_istore (lv' := [(5, .int v4), (7, .int v3), (0, .ref (E.a 0)), (1, .int a1), (2, .int a2), (3, .int a3), (4, .int a4), (6, .int a6)]) hx hb dX12_lossOf_62 hl (by decide) rfl (fun ls hl => ?_)
          obtain ⟨v5, ex⟩ : ∃ y : Int32, y = (a6 + 1) := ⟨_, rfl⟩
          replace hf := xl_f hf v5 ex
          refine lv_iinc (v := v5) (lv' := [(6, .int v5), (5, .int v4), (7, .int v3), (0, .ref (E.a 0)), (1, .int a1), (2, .int a2), (3, .int a3), (4, .int a4)]) hx hb dX12_lossOf_64 hl (k := 7) rfl (by rw [ex]; rfl) (by decide) rfl (fun ls hl => ?_)
          clear ex
          refine lv_goto (tgt := 6) hx hb dX12_lossOf_67 (by decide) ?_
          exact ih6 a1 a2 a3 a4 v4 v5 σ _ _ _ hw (lv_sub hl [3, 4, 5, 6, 7, 1, 0] rfl) hf
        · replace hf := xif_neg c45 hf
          refine lv_iload_n hx hb dX12_lossOf_48 rfl (lv_at hl 4 rfl) ?_
          refine lv_iload hx hb dX12_lossOf_49 (lv_at hl 0 rfl) ?_
          refine lv_imul hx hb dX12_lossOf_51 ?_
          refine lv_goto (tgt := 61) hx hb dX12_lossOf_52 (by decide) ?_
          refine lv_iadd hx hb dX12_lossOf_61 ?_
          refine lv_topi (fun v6 ex => ?_)
          replace hf := xl_f hf v6 ex
          clear ex
          refine lv_istore (lv' := [(5, .int v6), (7, .int v3), (0, .ref (E.a 0)), (1, .int a1), (2, .int a2), (3, .int a3), (4, .int a4), (6, .int a6)]) hx hb dX12_lossOf_62 hl (by decide) rfl (fun ls hl => ?_)
          obtain ⟨v7, ex⟩ : ∃ y : Int32, y = (a6 + 1) := ⟨_, rfl⟩
          replace hf := xl_f hf v7 ex
          refine lv_iinc (v := v7) (lv' := [(6, .int v7), (5, .int v6), (7, .int v3), (0, .ref (E.a 0)), (1, .int a1), (2, .int a2), (3, .int a3), (4, .int a4)]) hx hb dX12_lossOf_64 hl (k := 7) rfl (by rw [ex]; rfl) (by decide) rfl (fun ls hl => ?_)
          clear ex
          refine lv_goto (tgt := 6) hx hb dX12_lossOf_67 (by decide) ?_
          exact ih6 a1 a2 a3 a4 v6 v7 σ _ _ _ hw (lv_sub hl [3, 4, 5, 6, 7, 1, 0] rfl) hf
  refine lv_iconst (v := 0) hx hb dX12_lossOf_0 (by decide) ?_
  refine lv_istore (lv' := [(5, .int 0), (0, .ref (E.a 0)), (1, .int p0), (2, .int p1), (3, .int p2), (4, .int p3)]) hx hb dX12_lossOf_1 hl (by decide) rfl (fun ls hl => ?_)
  refine lv_iconst (v := 0) hx hb dX12_lossOf_3 (by decide) ?_
  refine lv_istore (lv' := [(6, .int 0), (5, .int 0), (0, .ref (E.a 0)), (1, .int p0), (2, .int p1), (3, .int p2), (4, .int p3)]) hx hb dX12_lossOf_4 hl (by decide) rfl (fun ls hl => ?_)
  exact h6 xFU p0 p1 p2 p3 0 0 σ _ _ _ hw (lv_sub hl [2, 3, 4, 5, 6, 1, 0] rfl) hf

def fX12_bestNumber_c80 : Nat → Int32 → Int32 → Int32 → Int32 → Int32 → xSt → Option (Int32 × xSt)
  | 0 => fun _ _ _ _ _ _ => none
  | n + 1 => fun a1 a2 a3 a4 a5 σ => (if 100 ≤ a5 then some (a4, σ) else (xc2 (fX12_lossOf a1 a5 a2 a3 σ) fun r14 σ15 => (xc2 (fX12_lossOf a1 a4 a2 a3 σ15) fun r16 σ17 => (if r16 ≤ r14 then (xl (a5 + 1) fun v18 => fX12_bestNumber_c80 n a1 a2 a3 a4 v18 σ17) else (xl (a5 + 1) fun v19 => fX12_bestNumber_c80 n a1 a2 a3 a5 v19 σ17)))))
theorem fX12_bestNumber_c80_s (n : Nat) (a1 : Int32) (a2 : Int32) (a3 : Int32) (a4 : Int32) (a5 : Int32) (σ : xSt) : fX12_bestNumber_c80 (n + 1) a1 a2 a3 a4 a5 σ = ((if 100 ≤ a5 then some (a4, σ) else (xc2 (fX12_lossOf a1 a5 a2 a3 σ) fun r14 σ15 => (xc2 (fX12_lossOf a1 a4 a2 a3 σ15) fun r16 σ17 => (if r16 ≤ r14 then (xl (a5 + 1) fun v18 => fX12_bestNumber_c80 n a1 a2 a3 a4 v18 σ17) else (xl (a5 + 1) fun v19 => fX12_bestNumber_c80 n a1 a2 a3 a5 v19 σ17))))) : Option (Int32 × xSt)) := rfl
def fX12_bestNumber_c65 (a1 : Int32) (a2 : Int32) (a3 : Int32) (t0 : Int32) (σ : xSt) : Option (Int32 × xSt) := (xc2 (fX12_can t0 3 σ) fun r12 σ13 => (if r12 = 0 then some (0, σ13) else fX12_bestNumber_c80 xFU a1 a2 a3 0 1 σ13))
def fX12_bestNumber_c39 (a1 : Int32) (a2 : Int32) (a3 : Int32) (t0 : Int32) (σ : xSt) : Option (Int32 × xSt) := (xc2 (fX12_can t0 2 σ) fun r9 σ10 => (if r9 = 0 then some (0, σ10) else (xr σ10 1 680 (259 + a1) fun v11 => (if v11 ≤ 0 then fX12_bestNumber_c65 a1 a2 a3 0 σ10 else fX12_bestNumber_c65 a1 a2 a3 1 σ10))))
def fX12_bestNumber_c38 (a1 : Int32) (a2 : Int32) (a3 : Int32) (σ : xSt) : Option (Int32 × xSt) := fX12_bestNumber_c39 a1 a2 a3 0 σ
def fX12_bestNumber (p0 : Int32) (p1 : Int32) (p2 : Int32) (σ : xSt) : Option (Int32 × xSt) := (xc2 (fX12_isRecipe p0 σ) fun r1 σ2 => (xc2 (fX12_can r1 1 σ2) fun r3 σ4 => (if r3 = 0 then some (0, σ4) else (xc2 (fX12_in p1 0 99 σ4) fun r5 σ6 => (if r5 = 0 then fX12_bestNumber_c38 p0 p1 p2 σ6 else (xc2 (fX12_in p2 0 99 σ6) fun r7 σ8 => (if r7 = 0 then fX12_bestNumber_c38 p0 p1 p2 σ8 else fX12_bestNumber_c39 p0 p1 p2 1 σ8)))))))
abbrev rmX12_bestNumber : Room := { frames := 2, cells := 0, slots := 0, locals := 43 }
set_option maxRecDepth 100000 in
set_option maxHeartbeats 4000000 in
theorem mX12_bestNumber {l : Launch} {E : xE} (hE : E.sh = shM) (p0 : Int32) (p1 : Int32) (p2 : Int32) (σ : xSt) (o1 : Int32) (o2 : xSt) (hf : fX12_bestNumber p0 p1 p2 σ = some (o1, o2)) : xMi l yX12_bestNumber wsX12_bestNumber rmX12_bestNumber E [.ref (E.a 0), .int p0, .int p1, .int p2] σ o1 o2 := by
  unfold fX12_bestNumber at hf
  refine xMi_of (cc := cX12_bestNumber) (maxL := 6) (ret := (some .int)) (by decide) rfl (Nat.le_of_ble_eq_true rfl) ?_
  intro p e s m args below meth c A ls ⟨hx, hb, hr, hml, hown, hts, hlk⟩ hA hG hw hl
  have hown : s.vm.findClass RX12 = some m.cls := hown
  have hl : lv_has ls 6 [(0, .ref (E.a 0)), (1, .int p0), (2, .int p1), (3, .int p2)] := hl
  have hk9 := hts (.fieldLink RX12 9 "OvenRoundModel" "w" "[I") (by decide +kernel)
  have hiX12 : ∀ w ∈ wsX120, w ∈ wsX12_bestNumber := by decide +kernel
  have h80 : ∀ (n : Nat) (a1 : Int32) (a2 : Int32) (a3 : Int32) (a4 : Int32) (a5 : Int32) (σ : xSt) (H : Heap) (locs : List Loc) (ls : Array Slot), xw E A s.heap s σ H locs → lv_has ls 6 [(0, .ref (E.a 0)), (1, .int a1), (2, .int a2), (3, .int a3), (4, .int a4), (5, .int a5)] → fX12_bestNumber_c80 n a1 a2 a3 a4 a5 σ = some (o1, o2) → W p l e rmX12_bestNumber s m args below meth c H locs 0 0 (MQ below (xQi E A o1 o2) args s 0 0 A) (F0 m 80 ls []) := by
    intro n80
    induction n80 with
    | zero => intro a1 a2 a3 a4 a5 σ H locs ls hw hl hf; exact nomatch hf
    | succ n80 ih80 =>
      intro a1 a2 a3 a4 a5 σ H locs ls hw hl hf
      rw [fX12_bestNumber_c80_s] at hf
      refine lv_iload hx hb dX12_bestNumber_80 (lv_at hl 5 rfl) ?_
      refine lv_bipush (v := 100) hx hb dX12_bestNumber_82 (by decide) ?_
      refine lv_icmp_ge (tgt := 123) hx hb dX12_bestNumber_84 (by decide) (fun c84 => ?_) (fun c84 => ?_)
      · replace hf := xif_pos c84 hf
        refine lv_iload hx hb dX12_bestNumber_123 (lv_at hl 4 rfl) ?_
        exact x_iret hx hb hr hlk hw hf dX12_bestNumber_125
      · replace hf := xif_neg c84 hf
        refine lv_aload_n hx hb dX12_bestNumber_87 rfl (lv_at hl 0 rfl) ?_
        refine lv_iload_n hx hb dX12_bestNumber_88 rfl (lv_at hl 1 rfl) ?_
        refine lv_iload hx hb dX12_bestNumber_89 (lv_at hl 5 rfl) ?_
        refine lv_iload_n hx hb dX12_bestNumber_91 rfl (lv_at hl 2 rfl) ?_
        refine lv_iload_n hx hb dX12_bestNumber_92 rfl (lv_at hl 3 rfl) ?_
        obtain ⟨r14, σ15, hcl, hf⟩ := xc2_f hf
        refine x_calli (va_runV (As := [.int a1, .int a5, .int a2, .int a3]) (rest := []) ⟨hx, hb, hml, hown, hts⟩ (mX12_lossOf hE a1 a5 a2 a3 σ r14 σ15 hcl H.size) (cwV 4 hts gX12_bestNumber_X12_lossOf rfl rfl rfl (by decide +kernel) ⟨Nat.le_of_ble_eq_true rfl, Nat.le_of_ble_eq_true rfl⟩) (x_preV _ hw hA hG (cM0 hE) rfl) rfl rfl hl.1 rfl (lv_room (Nat.le_of_ble_eq_true rfl)) dX12_bestNumber_93 ⟨Nat.le_of_ble_eq_true rfl, Nat.le_of_ble_eq_true rfl⟩) hw hA (fun H locs hw => ?_)
        clear hcl
        refine lv_aload_n hx hb dX12_bestNumber_96 rfl (lv_at hl 0 rfl) ?_
        refine lv_iload_n hx hb dX12_bestNumber_97 rfl (lv_at hl 1 rfl) ?_
        refine lv_iload hx hb dX12_bestNumber_98 (lv_at hl 4 rfl) ?_
        refine lv_iload_n hx hb dX12_bestNumber_100 rfl (lv_at hl 2 rfl) ?_
        refine lv_iload_n hx hb dX12_bestNumber_101 rfl (lv_at hl 3 rfl) ?_
        obtain ⟨r16, σ17, hcl, hf⟩ := xc2_f hf
        refine x_calli (va_runV (As := [.int a1, .int a4, .int a2, .int a3]) (rest := [.int r14]) ⟨hx, hb, hml, hown, hts⟩ (mX12_lossOf hE a1 a4 a2 a3 σ15 r16 σ17 hcl H.size) (cwV 4 hts gX12_bestNumber_X12_lossOf rfl rfl rfl (by decide +kernel) ⟨Nat.le_of_ble_eq_true rfl, Nat.le_of_ble_eq_true rfl⟩) (x_preV _ hw hA hG (cM0 hE) rfl) rfl rfl hl.1 rfl (lv_room (Nat.le_of_ble_eq_true rfl)) dX12_bestNumber_102 ⟨Nat.le_of_ble_eq_true rfl, Nat.le_of_ble_eq_true rfl⟩) hw hA (fun H locs hw => ?_)
        clear hcl
        refine lv_icmp_ge (tgt := 113) hx hb dX12_bestNumber_105 (by decide) (fun c105 => ?_) (fun c105 => ?_)
        · replace hf := xif_pos c105 hf
          refine lv_iload hx hb dX12_bestNumber_113 (lv_at hl 4 rfl) ?_
          refine lv_istore (lv' := [(4, .int a4), (0, .ref (E.a 0)), (1, .int a1), (2, .int a2), (3, .int a3), (5, .int a5)]) hx hb dX12_bestNumber_115 hl (by decide) rfl (fun ls hl => ?_)
          obtain ⟨v18, ex⟩ : ∃ y : Int32, y = (a5 + 1) := ⟨_, rfl⟩
          replace hf := xl_f hf v18 ex
          refine lv_iinc (v := v18) (lv' := [(5, .int v18), (4, .int a4), (0, .ref (E.a 0)), (1, .int a1), (2, .int a2), (3, .int a3)]) hx hb dX12_bestNumber_117 hl (k := 5) rfl (by rw [ex]; rfl) (by decide) rfl (fun ls hl => ?_)
          clear ex
          refine lv_goto (tgt := 80) hx hb dX12_bestNumber_120 (by decide) ?_
          exact ih80 a1 a2 a3 a4 v18 σ17 _ _ _ hw (lv_sub hl [2, 3, 4, 5, 1, 0] rfl) hf
        · replace hf := xif_neg c105 hf
          refine lv_iload hx hb dX12_bestNumber_108 (lv_at hl 5 rfl) ?_
          refine lv_goto (tgt := 115) hx hb dX12_bestNumber_110 (by decide) ?_
          refine lv_istore (lv' := [(4, .int a5), (0, .ref (E.a 0)), (1, .int a1), (2, .int a2), (3, .int a3), (5, .int a5)]) hx hb dX12_bestNumber_115 hl (by decide) rfl (fun ls hl => ?_)
          obtain ⟨v19, ex⟩ : ∃ y : Int32, y = (a5 + 1) := ⟨_, rfl⟩
          replace hf := xl_f hf v19 ex
          refine lv_iinc (v := v19) (lv' := [(5, .int v19), (4, .int a5), (0, .ref (E.a 0)), (1, .int a1), (2, .int a2), (3, .int a3)]) hx hb dX12_bestNumber_117 hl (k := 5) rfl (by rw [ex]; rfl) (by decide) rfl (fun ls hl => ?_)
          clear ex
          refine lv_goto (tgt := 80) hx hb dX12_bestNumber_120 (by decide) ?_
          exact ih80 a1 a2 a3 a5 v19 σ17 _ _ _ hw (lv_sub hl [2, 3, 4, 5, 1, 0] rfl) hf
  have h65 : ∀ (a1 : Int32) (a2 : Int32) (a3 : Int32) (t0 : Int32) (σ : xSt) (H : Heap) (locs : List Loc) (ls : Array Slot), xw E A s.heap s σ H locs → lv_has ls 6 [(0, .ref (E.a 0)), (1, .int a1), (2, .int a2), (3, .int a3)] → fX12_bestNumber_c65 a1 a2 a3 t0 σ = some (o1, o2) → W p l e rmX12_bestNumber s m args below meth c H locs 0 0 (MQ below (xQi E A o1 o2) args s 0 0 A) (F0 m 65 ls [.int t0, .ref (E.a 0)]) := by
    intro a1 a2 a3 t0 σ H locs ls hw hl hf
    unfold fX12_bestNumber_c65 at hf
    refine lv_iconst (v := 3) hx hb dX12_bestNumber_65 (by decide) ?_
    obtain ⟨r12, σ13, hcl, hf⟩ := xc2_f hf
    refine x_calli (va_runV (As := [.int t0, .int 3]) (rest := []) ⟨hx, hb, hml, hown, hts⟩ (mX12_can hE t0 3 σ r12 σ13 hcl H.size) (cwV 2 hts gX12_bestNumber_X12_can rfl rfl rfl (by decide +kernel) ⟨Nat.le_of_ble_eq_true rfl, Nat.le_of_ble_eq_true rfl⟩) (x_preV _ hw hA hG (cM0 hE) rfl) rfl rfl hl.1 rfl (lv_room (Nat.le_of_ble_eq_true rfl)) dX12_bestNumber_66 ⟨Nat.le_of_ble_eq_true rfl, Nat.le_of_ble_eq_true rfl⟩) hw hA (fun H locs hw => ?_)
    clear hcl
    refine lv_if_ne (tgt := 74) hx hb dX12_bestNumber_69 (by decide) (fun c69 => ?_) (fun c69 => ?_)
    · replace hf := xif_neg c69 hf
      refine lv_iconst (v := 0) hx hb dX12_bestNumber_74 (by decide) ?_
      refine lv_istore (lv' := [(4, .int 0), (0, .ref (E.a 0)), (1, .int a1), (2, .int a2), (3, .int a3)]) hx hb dX12_bestNumber_75 hl (by decide) rfl (fun ls hl => ?_)
      refine lv_iconst (v := 1) hx hb dX12_bestNumber_77 (by decide) ?_
      refine lv_istore (lv' := [(5, .int 1), (4, .int 0), (0, .ref (E.a 0)), (1, .int a1), (2, .int a2), (3, .int a3)]) hx hb dX12_bestNumber_78 hl (by decide) rfl (fun ls hl => ?_)
      exact h80 xFU a1 a2 a3 0 1 σ13 _ _ _ hw (lv_sub hl [2, 3, 4, 5, 1, 0] rfl) hf
    · replace hf := xif_pos c69 hf
      refine lv_iconst (v := 0) hx hb dX12_bestNumber_72 (by decide) ?_
      exact x_iret hx hb hr hlk hw hf dX12_bestNumber_73
  have h39 : ∀ (a1 : Int32) (a2 : Int32) (a3 : Int32) (t0 : Int32) (σ : xSt) (H : Heap) (locs : List Loc) (ls : Array Slot), xw E A s.heap s σ H locs → lv_has ls 6 [(0, .ref (E.a 0)), (1, .int a1), (2, .int a2), (3, .int a3)] → fX12_bestNumber_c39 a1 a2 a3 t0 σ = some (o1, o2) → W p l e rmX12_bestNumber s m args below meth c H locs 0 0 (MQ below (xQi E A o1 o2) args s 0 0 A) (F0 m 39 ls [.int t0, .ref (E.a 0)]) := by
    intro a1 a2 a3 t0 σ H locs ls hw hl hf
    unfold fX12_bestNumber_c39 at hf
    refine lv_iconst (v := 2) hx hb dX12_bestNumber_39 (by decide) ?_
    obtain ⟨r9, σ10, hcl, hf⟩ := xc2_f hf
    refine x_calli (va_runV (As := [.int t0, .int 2]) (rest := []) ⟨hx, hb, hml, hown, hts⟩ (mX12_can hE t0 2 σ r9 σ10 hcl H.size) (cwV 2 hts gX12_bestNumber_X12_can rfl rfl rfl (by decide +kernel) ⟨Nat.le_of_ble_eq_true rfl, Nat.le_of_ble_eq_true rfl⟩) (x_preV _ hw hA hG (cM0 hE) rfl) rfl rfl hl.1 rfl (lv_room (Nat.le_of_ble_eq_true rfl)) dX12_bestNumber_40 ⟨Nat.le_of_ble_eq_true rfl, Nat.le_of_ble_eq_true rfl⟩) hw hA (fun H locs hw => ?_)
    clear hcl
    refine lv_if_eq (tgt := 72) hx hb dX12_bestNumber_43 (by decide) (fun c43 => ?_) (fun c43 => ?_)
    · replace hf := xif_pos c43 hf
      refine lv_iconst (v := 0) hx hb dX12_bestNumber_72 (by decide) ?_
      exact x_iret hx hb hr hlk hw hf dX12_bestNumber_73
    · replace hf := xif_neg c43 hf
      refine lv_aload_n hx hb dX12_bestNumber_46 rfl (lv_at hl 0 rfl) ?_
      refine lv_aload_n hx hb dX12_bestNumber_47 rfl (lv_at hl 0 rfl) ?_
      refine x_getr hx hb hw (cM0 hE) (own := RX12) (ref := RX12) (C := RX12) (T := TX12) (N := 20) hts hiX12 hown rfl 1 (by decide) hk9 (fun _ h9 => h9) rfl dX12_bestNumber_48 ?_
      refine lv_sipush (v := 259) hx hb dX12_bestNumber_51 (by decide) ?_
      refine lv_iload_n hx hb dX12_bestNumber_54 rfl (lv_at hl 1 rfl) ?_
      refine lv_iadd hx hb dX12_bestNumber_55 ?_
      obtain ⟨hin, hf⟩ := xr_f hf
      refine x_iald hx hb hw (cM1 hE) hin dX12_bestNumber_56 ?_
      refine lv_topi (fun v11 ex => ?_)
      replace hf := hf v11 ex
      clear ex hin
      refine lv_if_le (tgt := 64) hx hb dX12_bestNumber_57 (by decide) (fun c57 => ?_) (fun c57 => ?_)
      · replace hf := xif_pos c57 hf
        refine lv_iconst (v := 0) hx hb dX12_bestNumber_64 (by decide) ?_
        exact h65 a1 a2 a3 0 σ10 _ _ _ hw (lv_sub hl [0, 1, 2, 3] rfl) hf
      · replace hf := xif_neg c57 hf
        refine lv_iconst (v := 1) hx hb dX12_bestNumber_60 (by decide) ?_
        refine lv_goto (tgt := 65) hx hb dX12_bestNumber_61 (by decide) ?_
        exact h65 a1 a2 a3 1 σ10 _ _ _ hw (lv_sub hl [0, 1, 2, 3] rfl) hf
  have h38 : ∀ (a1 : Int32) (a2 : Int32) (a3 : Int32) (σ : xSt) (H : Heap) (locs : List Loc) (ls : Array Slot), xw E A s.heap s σ H locs → lv_has ls 6 [(0, .ref (E.a 0)), (1, .int a1), (2, .int a2), (3, .int a3)] → fX12_bestNumber_c38 a1 a2 a3 σ = some (o1, o2) → W p l e rmX12_bestNumber s m args below meth c H locs 0 0 (MQ below (xQi E A o1 o2) args s 0 0 A) (F0 m 38 ls [.ref (E.a 0)]) := by
    intro a1 a2 a3 σ H locs ls hw hl hf
    unfold fX12_bestNumber_c38 at hf
    refine lv_iconst (v := 0) hx hb dX12_bestNumber_38 (by decide) ?_
    exact h39 a1 a2 a3 0 σ _ _ _ hw (lv_sub hl [0, 1, 2, 3] rfl) hf
  refine lv_aload_n hx hb dX12_bestNumber_0 rfl (lv_at hl 0 rfl) ?_
  refine lv_aload_n hx hb dX12_bestNumber_1 rfl (lv_at hl 0 rfl) ?_
  refine lv_iload_n hx hb dX12_bestNumber_2 rfl (lv_at hl 1 rfl) ?_
  obtain ⟨r1, σ2, hcl, hf⟩ := xc2_f hf
  refine x_calli (va_runV (As := [.int p0]) (rest := [.ref (E.a 0)]) ⟨hx, hb, hml, hown, hts⟩ (mX12_isRecipe hE p0 σ r1 σ2 hcl s.heap.size) (cwV 1 hts gX12_bestNumber_X12_isRecipe rfl rfl rfl (by decide +kernel) ⟨Nat.le_of_ble_eq_true rfl, Nat.le_of_ble_eq_true rfl⟩) (x_preV _ hw hA hG (cM0 hE) rfl) rfl rfl hl.1 rfl (lv_room (Nat.le_of_ble_eq_true rfl)) dX12_bestNumber_3 ⟨Nat.le_of_ble_eq_true rfl, Nat.le_of_ble_eq_true rfl⟩) hw hA (fun H locs hw => ?_)
  clear hcl
  refine lv_iconst (v := 1) hx hb dX12_bestNumber_6 (by decide) ?_
  obtain ⟨r3, σ4, hcl, hf⟩ := xc2_f hf
  refine x_calli (va_runV (As := [.int r1, .int 1]) (rest := []) ⟨hx, hb, hml, hown, hts⟩ (mX12_can hE r1 1 σ2 r3 σ4 hcl H.size) (cwV 2 hts gX12_bestNumber_X12_can rfl rfl rfl (by decide +kernel) ⟨Nat.le_of_ble_eq_true rfl, Nat.le_of_ble_eq_true rfl⟩) (x_preV _ hw hA hG (cM0 hE) rfl) rfl rfl hl.1 rfl (lv_room (Nat.le_of_ble_eq_true rfl)) dX12_bestNumber_7 ⟨Nat.le_of_ble_eq_true rfl, Nat.le_of_ble_eq_true rfl⟩) hw hA (fun H locs hw => ?_)
  clear hcl
  refine lv_if_eq (tgt := 72) hx hb dX12_bestNumber_10 (by decide) (fun c10 => ?_) (fun c10 => ?_)
  · replace hf := xif_pos c10 hf
    refine lv_iconst (v := 0) hx hb dX12_bestNumber_72 (by decide) ?_
    exact x_iret hx hb hr hlk hw hf dX12_bestNumber_73
  · replace hf := xif_neg c10 hf
    refine lv_aload_n hx hb dX12_bestNumber_13 rfl (lv_at hl 0 rfl) ?_
    refine lv_iload_n hx hb dX12_bestNumber_14 rfl (lv_at hl 2 rfl) ?_
    refine lv_iconst (v := 0) hx hb dX12_bestNumber_15 (by decide) ?_
    refine lv_bipush (v := 99) hx hb dX12_bestNumber_16 (by decide) ?_
    obtain ⟨r5, σ6, hcl, hf⟩ := xc2_f hf
    refine x_calli (va_runS (As := [.int p1, .int 0, .int 99]) (rest := [.ref (E.a 0)]) ⟨hx, hb, hml, hown, hts⟩ (mX12_in hE p1 0 99 σ4 r5 σ6 hcl H.size) (va_cwS 3 hts gX12_bestNumber_X12_in rfl rfl rfl (by decide +kernel) ⟨Nat.le_of_ble_eq_true rfl, Nat.le_of_ble_eq_true rfl⟩) (x_preS _ hw hA hG) rfl rfl hl.1 rfl (lv_room (Nat.le_of_ble_eq_true rfl)) dX12_bestNumber_18 ⟨Nat.le_of_ble_eq_true rfl, Nat.le_of_ble_eq_true rfl⟩) hw hA (fun H locs hw => ?_)
    clear hcl
    refine lv_if_eq (tgt := 38) hx hb dX12_bestNumber_21 (by decide) (fun c21 => ?_) (fun c21 => ?_)
    · replace hf := xif_pos c21 hf
      exact h38 p0 p1 p2 σ6 _ _ _ hw (lv_sub hl [0, 1, 2, 3] rfl) hf
    · replace hf := xif_neg c21 hf
      refine lv_iload_n hx hb dX12_bestNumber_24 rfl (lv_at hl 3 rfl) ?_
      refine lv_iconst (v := 0) hx hb dX12_bestNumber_25 (by decide) ?_
      refine lv_bipush (v := 99) hx hb dX12_bestNumber_26 (by decide) ?_
      obtain ⟨r7, σ8, hcl, hf⟩ := xc2_f hf
      refine x_calli (va_runS (As := [.int p2, .int 0, .int 99]) (rest := [.ref (E.a 0)]) ⟨hx, hb, hml, hown, hts⟩ (mX12_in hE p2 0 99 σ6 r7 σ8 hcl H.size) (va_cwS 3 hts gX12_bestNumber_X12_in rfl rfl rfl (by decide +kernel) ⟨Nat.le_of_ble_eq_true rfl, Nat.le_of_ble_eq_true rfl⟩) (x_preS _ hw hA hG) rfl rfl hl.1 rfl (lv_room (Nat.le_of_ble_eq_true rfl)) dX12_bestNumber_28 ⟨Nat.le_of_ble_eq_true rfl, Nat.le_of_ble_eq_true rfl⟩) hw hA (fun H locs hw => ?_)
      clear hcl
      refine lv_if_eq (tgt := 38) hx hb dX12_bestNumber_31 (by decide) (fun c31 => ?_) (fun c31 => ?_)
      · replace hf := xif_pos c31 hf
        exact h38 p0 p1 p2 σ8 _ _ _ hw (lv_sub hl [0, 1, 2, 3] rfl) hf
      · replace hf := xif_neg c31 hf
        refine lv_iconst (v := 1) hx hb dX12_bestNumber_34 (by decide) ?_
        refine lv_goto (tgt := 39) hx hb dX12_bestNumber_35 (by decide) ?_
        exact h39 p0 p1 p2 1 σ8 _ _ _ hw (lv_sub hl [0, 1, 2, 3] rfl) hf

def fX12_loss_c50 (a1 : Int32) (a2 : Int32) (a3 : Int32) (a4 : Int32) (t0 : Int32) (σ : xSt) : Option (Int32 × xSt) := (xc2 (fX12_can t0 2 σ) fun r11 σ12 => (if r11 = 0 then some (0, σ12) else (xc2 (fX12_lossOf a1 a2 a3 a4 σ12) fun r13 σ14 => some (r13, σ14))))
def fX12_loss_c49 (a1 : Int32) (a2 : Int32) (a3 : Int32) (a4 : Int32) (σ : xSt) : Option (Int32 × xSt) := fX12_loss_c50 a1 a2 a3 a4 0 σ
def fX12_loss (p0 : Int32) (p1 : Int32) (p2 : Int32) (p3 : Int32) (σ : xSt) : Option (Int32 × xSt) := (xc2 (fX12_isRecipe p0 σ) fun r1 σ2 => (xc2 (fX12_can r1 1 σ2) fun r3 σ4 => (if r3 = 0 then some (0, σ4) else (xc2 (fX12_in p1 0 99 σ4) fun r5 σ6 => (if r5 = 0 then fX12_loss_c49 p0 p1 p2 p3 σ6 else (xc2 (fX12_in p2 0 99 σ6) fun r7 σ8 => (if r7 = 0 then fX12_loss_c49 p0 p1 p2 p3 σ8 else (xc2 (fX12_in p3 0 99 σ8) fun r9 σ10 => (if r9 = 0 then fX12_loss_c49 p0 p1 p2 p3 σ10 else fX12_loss_c50 p0 p1 p2 p3 1 σ10)))))))))
abbrev rmX12_loss : Room := { frames := 2, cells := 0, slots := 0, locals := 43 }
set_option maxRecDepth 100000 in
set_option maxHeartbeats 4000000 in
theorem mX12_loss {l : Launch} {E : xE} (hE : E.sh = shM) (p0 : Int32) (p1 : Int32) (p2 : Int32) (p3 : Int32) (σ : xSt) (o1 : Int32) (o2 : xSt) (hf : fX12_loss p0 p1 p2 p3 σ = some (o1, o2)) : xMi l yX12_loss wsX12_loss rmX12_loss E [.ref (E.a 0), .int p0, .int p1, .int p2, .int p3] σ o1 o2 := by
  unfold fX12_loss at hf
  refine xMi_of (cc := cX12_loss) (maxL := 5) (ret := (some .int)) (by decide) rfl (Nat.le_of_ble_eq_true rfl) ?_
  intro p e s m args below meth c A ls ⟨hx, hb, hr, hml, hown, hts, hlk⟩ hA hG hw hl
  have hown : s.vm.findClass RX12 = some m.cls := hown
  have hl : lv_has ls 5 [(0, .ref (E.a 0)), (1, .int p0), (2, .int p1), (3, .int p2), (4, .int p3)] := hl
  have h50 : ∀ (a1 : Int32) (a2 : Int32) (a3 : Int32) (a4 : Int32) (t0 : Int32) (σ : xSt) (H : Heap) (locs : List Loc) (ls : Array Slot), xw E A s.heap s σ H locs → lv_has ls 5 [(0, .ref (E.a 0)), (1, .int a1), (2, .int a2), (3, .int a3), (4, .int a4)] → fX12_loss_c50 a1 a2 a3 a4 t0 σ = some (o1, o2) → W p l e rmX12_loss s m args below meth c H locs 0 0 (MQ below (xQi E A o1 o2) args s 0 0 A) (F0 m 50 ls [.int t0, .ref (E.a 0)]) := by
    intro a1 a2 a3 a4 t0 σ H locs ls hw hl hf
    unfold fX12_loss_c50 at hf
    refine lv_iconst (v := 2) hx hb dX12_loss_50 (by decide) ?_
    obtain ⟨r11, σ12, hcl, hf⟩ := xc2_f hf
    refine x_calli (va_runV (As := [.int t0, .int 2]) (rest := []) ⟨hx, hb, hml, hown, hts⟩ (mX12_can hE t0 2 σ r11 σ12 hcl H.size) (cwV 2 hts gX12_loss_X12_can rfl rfl rfl (by decide +kernel) ⟨Nat.le_of_ble_eq_true rfl, Nat.le_of_ble_eq_true rfl⟩) (x_preV _ hw hA hG (cM0 hE) rfl) rfl rfl hl.1 rfl (lv_room (Nat.le_of_ble_eq_true rfl)) dX12_loss_51 ⟨Nat.le_of_ble_eq_true rfl, Nat.le_of_ble_eq_true rfl⟩) hw hA (fun H locs hw => ?_)
    clear hcl
    refine lv_if_ne (tgt := 59) hx hb dX12_loss_54 (by decide) (fun c54 => ?_) (fun c54 => ?_)
    · replace hf := xif_neg c54 hf
      refine lv_aload_n hx hb dX12_loss_59 rfl (lv_at hl 0 rfl) ?_
      refine lv_iload_n hx hb dX12_loss_60 rfl (lv_at hl 1 rfl) ?_
      refine lv_iload_n hx hb dX12_loss_61 rfl (lv_at hl 2 rfl) ?_
      refine lv_iload_n hx hb dX12_loss_62 rfl (lv_at hl 3 rfl) ?_
      refine lv_iload hx hb dX12_loss_63 (lv_at hl 4 rfl) ?_
      obtain ⟨r13, σ14, hcl, hf⟩ := xc2_f hf
      refine x_calli (va_runV (As := [.int a1, .int a2, .int a3, .int a4]) (rest := []) ⟨hx, hb, hml, hown, hts⟩ (mX12_lossOf hE a1 a2 a3 a4 σ12 r13 σ14 hcl H.size) (cwV 4 hts gX12_loss_X12_lossOf rfl rfl rfl (by decide +kernel) ⟨Nat.le_of_ble_eq_true rfl, Nat.le_of_ble_eq_true rfl⟩) (x_preV _ hw hA hG (cM0 hE) rfl) rfl rfl hl.1 rfl (lv_room (Nat.le_of_ble_eq_true rfl)) dX12_loss_65 ⟨Nat.le_of_ble_eq_true rfl, Nat.le_of_ble_eq_true rfl⟩) hw hA (fun H locs hw => ?_)
      clear hcl
      exact x_iret hx hb hr hlk hw hf dX12_loss_68
    · replace hf := xif_pos c54 hf
      refine lv_iconst (v := 0) hx hb dX12_loss_57 (by decide) ?_
      exact x_iret hx hb hr hlk hw hf dX12_loss_58
  have h49 : ∀ (a1 : Int32) (a2 : Int32) (a3 : Int32) (a4 : Int32) (σ : xSt) (H : Heap) (locs : List Loc) (ls : Array Slot), xw E A s.heap s σ H locs → lv_has ls 5 [(0, .ref (E.a 0)), (1, .int a1), (2, .int a2), (3, .int a3), (4, .int a4)] → fX12_loss_c49 a1 a2 a3 a4 σ = some (o1, o2) → W p l e rmX12_loss s m args below meth c H locs 0 0 (MQ below (xQi E A o1 o2) args s 0 0 A) (F0 m 49 ls [.ref (E.a 0)]) := by
    intro a1 a2 a3 a4 σ H locs ls hw hl hf
    unfold fX12_loss_c49 at hf
    refine lv_iconst (v := 0) hx hb dX12_loss_49 (by decide) ?_
    exact h50 a1 a2 a3 a4 0 σ _ _ _ hw (lv_sub hl [0, 1, 2, 3, 4] rfl) hf
  refine lv_aload_n hx hb dX12_loss_0 rfl (lv_at hl 0 rfl) ?_
  refine lv_aload_n hx hb dX12_loss_1 rfl (lv_at hl 0 rfl) ?_
  refine lv_iload_n hx hb dX12_loss_2 rfl (lv_at hl 1 rfl) ?_
  obtain ⟨r1, σ2, hcl, hf⟩ := xc2_f hf
  refine x_calli (va_runV (As := [.int p0]) (rest := [.ref (E.a 0)]) ⟨hx, hb, hml, hown, hts⟩ (mX12_isRecipe hE p0 σ r1 σ2 hcl s.heap.size) (cwV 1 hts gX12_loss_X12_isRecipe rfl rfl rfl (by decide +kernel) ⟨Nat.le_of_ble_eq_true rfl, Nat.le_of_ble_eq_true rfl⟩) (x_preV _ hw hA hG (cM0 hE) rfl) rfl rfl hl.1 rfl (lv_room (Nat.le_of_ble_eq_true rfl)) dX12_loss_3 ⟨Nat.le_of_ble_eq_true rfl, Nat.le_of_ble_eq_true rfl⟩) hw hA (fun H locs hw => ?_)
  clear hcl
  refine lv_iconst (v := 1) hx hb dX12_loss_6 (by decide) ?_
  obtain ⟨r3, σ4, hcl, hf⟩ := xc2_f hf
  refine x_calli (va_runV (As := [.int r1, .int 1]) (rest := []) ⟨hx, hb, hml, hown, hts⟩ (mX12_can hE r1 1 σ2 r3 σ4 hcl H.size) (cwV 2 hts gX12_loss_X12_can rfl rfl rfl (by decide +kernel) ⟨Nat.le_of_ble_eq_true rfl, Nat.le_of_ble_eq_true rfl⟩) (x_preV _ hw hA hG (cM0 hE) rfl) rfl rfl hl.1 rfl (lv_room (Nat.le_of_ble_eq_true rfl)) dX12_loss_7 ⟨Nat.le_of_ble_eq_true rfl, Nat.le_of_ble_eq_true rfl⟩) hw hA (fun H locs hw => ?_)
  clear hcl
  refine lv_if_eq (tgt := 57) hx hb dX12_loss_10 (by decide) (fun c10 => ?_) (fun c10 => ?_)
  · replace hf := xif_pos c10 hf
    refine lv_iconst (v := 0) hx hb dX12_loss_57 (by decide) ?_
    exact x_iret hx hb hr hlk hw hf dX12_loss_58
  · replace hf := xif_neg c10 hf
    refine lv_aload_n hx hb dX12_loss_13 rfl (lv_at hl 0 rfl) ?_
    refine lv_iload_n hx hb dX12_loss_14 rfl (lv_at hl 2 rfl) ?_
    refine lv_iconst (v := 0) hx hb dX12_loss_15 (by decide) ?_
    refine lv_bipush (v := 99) hx hb dX12_loss_16 (by decide) ?_
    obtain ⟨r5, σ6, hcl, hf⟩ := xc2_f hf
    refine x_calli (va_runS (As := [.int p1, .int 0, .int 99]) (rest := [.ref (E.a 0)]) ⟨hx, hb, hml, hown, hts⟩ (mX12_in hE p1 0 99 σ4 r5 σ6 hcl H.size) (va_cwS 3 hts gX12_loss_X12_in rfl rfl rfl (by decide +kernel) ⟨Nat.le_of_ble_eq_true rfl, Nat.le_of_ble_eq_true rfl⟩) (x_preS _ hw hA hG) rfl rfl hl.1 rfl (lv_room (Nat.le_of_ble_eq_true rfl)) dX12_loss_18 ⟨Nat.le_of_ble_eq_true rfl, Nat.le_of_ble_eq_true rfl⟩) hw hA (fun H locs hw => ?_)
    clear hcl
    refine lv_if_eq (tgt := 49) hx hb dX12_loss_21 (by decide) (fun c21 => ?_) (fun c21 => ?_)
    · replace hf := xif_pos c21 hf
      exact h49 p0 p1 p2 p3 σ6 _ _ _ hw (lv_sub hl [0, 1, 2, 3, 4] rfl) hf
    · replace hf := xif_neg c21 hf
      refine lv_iload_n hx hb dX12_loss_24 rfl (lv_at hl 3 rfl) ?_
      refine lv_iconst (v := 0) hx hb dX12_loss_25 (by decide) ?_
      refine lv_bipush (v := 99) hx hb dX12_loss_26 (by decide) ?_
      obtain ⟨r7, σ8, hcl, hf⟩ := xc2_f hf
      refine x_calli (va_runS (As := [.int p2, .int 0, .int 99]) (rest := [.ref (E.a 0)]) ⟨hx, hb, hml, hown, hts⟩ (mX12_in hE p2 0 99 σ6 r7 σ8 hcl H.size) (va_cwS 3 hts gX12_loss_X12_in rfl rfl rfl (by decide +kernel) ⟨Nat.le_of_ble_eq_true rfl, Nat.le_of_ble_eq_true rfl⟩) (x_preS _ hw hA hG) rfl rfl hl.1 rfl (lv_room (Nat.le_of_ble_eq_true rfl)) dX12_loss_28 ⟨Nat.le_of_ble_eq_true rfl, Nat.le_of_ble_eq_true rfl⟩) hw hA (fun H locs hw => ?_)
      clear hcl
      refine lv_if_eq (tgt := 49) hx hb dX12_loss_31 (by decide) (fun c31 => ?_) (fun c31 => ?_)
      · replace hf := xif_pos c31 hf
        exact h49 p0 p1 p2 p3 σ8 _ _ _ hw (lv_sub hl [0, 1, 2, 3, 4] rfl) hf
      · replace hf := xif_neg c31 hf
        refine lv_iload hx hb dX12_loss_34 (lv_at hl 4 rfl) ?_
        refine lv_iconst (v := 0) hx hb dX12_loss_36 (by decide) ?_
        refine lv_bipush (v := 99) hx hb dX12_loss_37 (by decide) ?_
        obtain ⟨r9, σ10, hcl, hf⟩ := xc2_f hf
        refine x_calli (va_runS (As := [.int p3, .int 0, .int 99]) (rest := [.ref (E.a 0)]) ⟨hx, hb, hml, hown, hts⟩ (mX12_in hE p3 0 99 σ8 r9 σ10 hcl H.size) (va_cwS 3 hts gX12_loss_X12_in rfl rfl rfl (by decide +kernel) ⟨Nat.le_of_ble_eq_true rfl, Nat.le_of_ble_eq_true rfl⟩) (x_preS _ hw hA hG) rfl rfl hl.1 rfl (lv_room (Nat.le_of_ble_eq_true rfl)) dX12_loss_39 ⟨Nat.le_of_ble_eq_true rfl, Nat.le_of_ble_eq_true rfl⟩) hw hA (fun H locs hw => ?_)
        clear hcl
        refine lv_if_eq (tgt := 49) hx hb dX12_loss_42 (by decide) (fun c42 => ?_) (fun c42 => ?_)
        · replace hf := xif_pos c42 hf
          exact h49 p0 p1 p2 p3 σ10 _ _ _ hw (lv_sub hl [0, 1, 2, 3, 4] rfl) hf
        · replace hf := xif_neg c42 hf
          refine lv_iconst (v := 1) hx hb dX12_loss_45 (by decide) ?_
          refine lv_goto (tgt := 50) hx hb dX12_loss_46 (by decide) ?_
          exact h50 p0 p1 p2 p3 1 σ10 _ _ _ hw (lv_sub hl [0, 1, 2, 3, 4] rfl) hf

def fX12_addShop_c85 (a1 : Int32) (a2 : Int32) (a3 : Int32) (a4 : Int32) (a5 : Int32) (t0 : Int32) (σ : xSt) : Option (Int32 × xSt) := (xc2 (fX12_can t0 2 σ) fun r14 σ15 => (if r14 = 0 then some (0, σ15) else (xc (fX12_keep σ15) fun σ17 => (xr σ17 1 680 7 fun v18 => (xr σ17 1 680 7 fun v19 => (xs σ17 1 680 7 (v19 + 1) fun σ20 => (xs σ20 1 680 (625 + v18) a1 fun σ21 => (xs σ21 1 680 (632 + v18) a2 fun σ22 => (xs σ22 1 680 (639 + v18) a3 fun σ23 => (xs σ23 1 680 (646 + v18) a4 fun σ24 => (xs σ24 1 680 (653 + v18) a5 fun σ25 => some (v18, σ25))))))))))))
def fX12_addShop_c60 (a1 : Int32) (a2 : Int32) (a3 : Int32) (a4 : Int32) (a5 : Int32) (t0 : Int32) (σ : xSt) : Option (Int32 × xSt) := (xc2 (fX12_can t0 1 σ) fun r11 σ12 => (if r11 = 0 then some (0, σ12) else (xr σ12 1 680 7 fun v13 => (if 7 ≤ v13 then fX12_addShop_c85 a1 a2 a3 a4 a5 0 σ12 else fX12_addShop_c85 a1 a2 a3 a4 a5 1 σ12))))
def fX12_addShop_c59 (a1 : Int32) (a2 : Int32) (a3 : Int32) (a4 : Int32) (a5 : Int32) (σ : xSt) : Option (Int32 × xSt) := fX12_addShop_c60 a1 a2 a3 a4 a5 0 σ
def fX12_addShop (p0 : Int32) (p1 : Int32) (p2 : Int32) (p3 : Int32) (p4 : Int32) (σ : xSt) : Option (Int32 × xSt) := (xc2 (fX12_in p0 0 20 σ) fun r1 σ2 => (if r1 = 0 then fX12_addShop_c59 p0 p1 p2 p3 p4 σ2 else (xc2 (fX12_in p1 0 20 σ2) fun r3 σ4 => (if r3 = 0 then fX12_addShop_c59 p0 p1 p2 p3 p4 σ4 else (xc2 (fX12_in p2 0 600 σ4) fun r5 σ6 => (if r5 = 0 then fX12_addShop_c59 p0 p1 p2 p3 p4 σ6 else (xc2 (fX12_in p3 p2 600 σ6) fun r7 σ8 => (if r7 = 0 then fX12_addShop_c59 p0 p1 p2 p3 p4 σ8 else (xc2 (fX12_in p4 0 30 σ8) fun r9 σ10 => (if r9 = 0 then fX12_addShop_c59 p0 p1 p2 p3 p4 σ10 else fX12_addShop_c60 p0 p1 p2 p3 p4 1 σ10))))))))))
abbrev rmX12_addShop : Room := { frames := 2, cells := 0, slots := 0, locals := 42 }
set_option maxRecDepth 100000 in
set_option maxHeartbeats 4000000 in
theorem mX12_addShop {l : Launch} {E : xE} (hE : E.sh = shM) (p0 : Int32) (p1 : Int32) (p2 : Int32) (p3 : Int32) (p4 : Int32) (σ : xSt) (o1 : Int32) (o2 : xSt) (hf : fX12_addShop p0 p1 p2 p3 p4 σ = some (o1, o2)) : xMi l yX12_addShop wsX12_addShop rmX12_addShop E [.ref (E.a 0), .int p0, .int p1, .int p2, .int p3, .int p4] σ o1 o2 := by
  unfold fX12_addShop at hf
  refine xMi_of (cc := cX12_addShop) (maxL := 7) (ret := (some .int)) (by decide) rfl (Nat.le_of_ble_eq_true rfl) ?_
  intro p e s m args below meth c A ls ⟨hx, hb, hr, hml, hown, hts, hlk⟩ hA hG hw hl
  have hown : s.vm.findClass RX12 = some m.cls := hown
  have hl : lv_has ls 7 [(0, .ref (E.a 0)), (1, .int p0), (2, .int p1), (3, .int p2), (4, .int p3), (5, .int p4)] := hl
  have hk9 := hts (.fieldLink RX12 9 "OvenRoundModel" "w" "[I") (by decide +kernel)
  have hiX12 : ∀ w ∈ wsX120, w ∈ wsX12_addShop := by decide +kernel
  have h85 : ∀ (a1 : Int32) (a2 : Int32) (a3 : Int32) (a4 : Int32) (a5 : Int32) (t0 : Int32) (σ : xSt) (H : Heap) (locs : List Loc) (ls : Array Slot), xw E A s.heap s σ H locs → lv_has ls 7 [(0, .ref (E.a 0)), (1, .int a1), (2, .int a2), (3, .int a3), (4, .int a4), (5, .int a5)] → fX12_addShop_c85 a1 a2 a3 a4 a5 t0 σ = some (o1, o2) → W p l e rmX12_addShop s m args below meth c H locs 0 0 (MQ below (xQi E A o1 o2) args s 0 0 A) (F0 m 85 ls [.int t0, .ref (E.a 0)]) := by
    intro a1 a2 a3 a4 a5 t0 σ H locs ls hw hl hf
    unfold fX12_addShop_c85 at hf
    refine lv_iconst (v := 2) hx hb dX12_addShop_85 (by decide) ?_
    obtain ⟨r14, σ15, hcl, hf⟩ := xc2_f hf
    refine x_calli (va_runV (As := [.int t0, .int 2]) (rest := []) ⟨hx, hb, hml, hown, hts⟩ (mX12_can hE t0 2 σ r14 σ15 hcl H.size) (cwV 2 hts gX12_addShop_X12_can rfl rfl rfl (by decide +kernel) ⟨Nat.le_of_ble_eq_true rfl, Nat.le_of_ble_eq_true rfl⟩) (x_preV _ hw hA hG (cM0 hE) rfl) rfl rfl hl.1 rfl (lv_room (Nat.le_of_ble_eq_true rfl)) dX12_addShop_86 ⟨Nat.le_of_ble_eq_true rfl, Nat.le_of_ble_eq_true rfl⟩) hw hA (fun H locs hw => ?_)
    clear hcl
    refine lv_if_ne (tgt := 94) hx hb dX12_addShop_89 (by decide) (fun c89 => ?_) (fun c89 => ?_)
    · replace hf := xif_neg c89 hf
      refine lv_aload_n hx hb dX12_addShop_94 rfl (lv_at hl 0 rfl) ?_
      obtain ⟨σ17, hcl, hf⟩ := xc_e hf
      refine x_callv (va_runV (As := []) (rest := []) ⟨hx, hb, hml, hown, hts⟩ (mX12_keep hE σ15 σ17 hcl H.size) (cwV 0 hts gX12_addShop_X12_keep rfl rfl rfl (by decide +kernel) ⟨Nat.le_of_ble_eq_true rfl, Nat.le_of_ble_eq_true rfl⟩) (x_preV _ hw hA hG (cM0 hE) rfl) rfl rfl hl.1 rfl (lv_room (Nat.le_of_ble_eq_true rfl)) dX12_addShop_95 ⟨Nat.le_of_ble_eq_true rfl, Nat.le_of_ble_eq_true rfl⟩) hw hA (fun H locs hw => ?_)
      clear hcl
      refine lv_aload_n hx hb dX12_addShop_98 rfl (lv_at hl 0 rfl) ?_
      refine x_getr hx hb hw (cM0 hE) (own := RX12) (ref := RX12) (C := RX12) (T := TX12) (N := 20) hts hiX12 hown rfl 1 (by decide) hk9 (fun _ h9 => h9) rfl dX12_addShop_99 ?_
      refine lv_bipush (v := 7) hx hb dX12_addShop_102 (by decide) ?_
      obtain ⟨hin, hf⟩ := xr_f hf
      refine x_iald hx hb hw (cM1 hE) hin dX12_addShop_104 ?_
      refine lv_topi (fun v18 ex => ?_)
      replace hf := hf v18 ex
      clear ex hin
      refine lv_istore (lv' := [(6, .int v18), (0, .ref (E.a 0)), (1, .int a1), (2, .int a2), (3, .int a3), (4, .int a4), (5, .int a5)]) hx hb dX12_addShop_105 hl (by decide) rfl (fun ls hl => ?_)
      refine lv_aload_n hx hb dX12_addShop_107 rfl (lv_at hl 1 rfl) ?_
      refine x_getr hx hb hw (cM0 hE) (own := RX12) (ref := RX12) (C := RX12) (T := TX12) (N := 20) hts hiX12 hown rfl 1 (by decide) hk9 (fun _ h9 => h9) rfl dX12_addShop_108 ?_
      refine lv_bipush (v := 7) hx hb dX12_addShop_111 (by decide) ?_
      refine lv_dup2_11 hx hb dX12_addShop_113 rfl rfl ?_
      obtain ⟨hin, hf⟩ := xr_f hf
      refine x_iald hx hb hw (cM1 hE) hin dX12_addShop_114 ?_
      refine lv_topi (fun v19 ex => ?_)
      replace hf := hf v19 ex
      clear ex hin
      refine lv_iconst (v := 1) hx hb dX12_addShop_115 (by decide) ?_
      refine lv_iadd hx hb dX12_addShop_116 ?_
      obtain ⟨hin, hf⟩ := xs_f hf
      refine x_iast hx hb hw (cM1 hE) hin dX12_addShop_117 (fun σ20 H locs ex hw => ?_)
      replace hf := hf σ20 ex
      clear ex hin
      refine lv_aload_n hx hb dX12_addShop_118 rfl (lv_at hl 1 rfl) ?_
      refine x_getr hx hb hw (cM0 hE) (own := RX12) (ref := RX12) (C := RX12) (T := TX12) (N := 20) hts hiX12 hown rfl 1 (by decide) hk9 (fun _ h9 => h9) rfl dX12_addShop_119 ?_
      refine lv_sipush (v := 625) hx hb dX12_addShop_122 (by decide) ?_
      refine lv_iload hx hb dX12_addShop_125 (lv_at hl 0 rfl) ?_
      refine lv_iadd hx hb dX12_addShop_127 ?_
      refine lv_iload_n hx hb dX12_addShop_128 rfl (lv_at hl 2 rfl) ?_
      obtain ⟨hin, hf⟩ := xs_f hf
      refine x_iast hx hb hw (cM1 hE) hin dX12_addShop_129 (fun σ21 H locs ex hw => ?_)
      replace hf := hf σ21 ex
      clear ex hin
      refine lv_aload_n hx hb dX12_addShop_130 rfl (lv_at hl 1 rfl) ?_
      refine x_getr hx hb hw (cM0 hE) (own := RX12) (ref := RX12) (C := RX12) (T := TX12) (N := 20) hts hiX12 hown rfl 1 (by decide) hk9 (fun _ h9 => h9) rfl dX12_addShop_131 ?_
      refine lv_sipush (v := 632) hx hb dX12_addShop_134 (by decide) ?_
      refine lv_iload hx hb dX12_addShop_137 (lv_at hl 0 rfl) ?_
      refine lv_iadd hx hb dX12_addShop_139 ?_
      refine lv_iload_n hx hb dX12_addShop_140 rfl (lv_at hl 3 rfl) ?_
      obtain ⟨hin, hf⟩ := xs_f hf
      refine x_iast hx hb hw (cM1 hE) hin dX12_addShop_141 (fun σ22 H locs ex hw => ?_)
      replace hf := hf σ22 ex
      clear ex hin
      refine lv_aload_n hx hb dX12_addShop_142 rfl (lv_at hl 1 rfl) ?_
      refine x_getr hx hb hw (cM0 hE) (own := RX12) (ref := RX12) (C := RX12) (T := TX12) (N := 20) hts hiX12 hown rfl 1 (by decide) hk9 (fun _ h9 => h9) rfl dX12_addShop_143 ?_
      refine lv_sipush (v := 639) hx hb dX12_addShop_146 (by decide) ?_
      refine lv_iload hx hb dX12_addShop_149 (lv_at hl 0 rfl) ?_
      refine lv_iadd hx hb dX12_addShop_151 ?_
      refine lv_iload_n hx hb dX12_addShop_152 rfl (lv_at hl 4 rfl) ?_
      obtain ⟨hin, hf⟩ := xs_f hf
      refine x_iast hx hb hw (cM1 hE) hin dX12_addShop_153 (fun σ23 H locs ex hw => ?_)
      replace hf := hf σ23 ex
      clear ex hin
      refine lv_aload_n hx hb dX12_addShop_154 rfl (lv_at hl 1 rfl) ?_
      refine x_getr hx hb hw (cM0 hE) (own := RX12) (ref := RX12) (C := RX12) (T := TX12) (N := 20) hts hiX12 hown rfl 1 (by decide) hk9 (fun _ h9 => h9) rfl dX12_addShop_155 ?_
      refine lv_sipush (v := 646) hx hb dX12_addShop_158 (by decide) ?_
      refine lv_iload hx hb dX12_addShop_161 (lv_at hl 0 rfl) ?_
      refine lv_iadd hx hb dX12_addShop_163 ?_
      refine lv_iload hx hb dX12_addShop_164 (lv_at hl 5 rfl) ?_
      obtain ⟨hin, hf⟩ := xs_f hf
      refine x_iast hx hb hw (cM1 hE) hin dX12_addShop_166 (fun σ24 H locs ex hw => ?_)
      replace hf := hf σ24 ex
      clear ex hin
      refine lv_aload_n hx hb dX12_addShop_167 rfl (lv_at hl 1 rfl) ?_
      refine x_getr hx hb hw (cM0 hE) (own := RX12) (ref := RX12) (C := RX12) (T := TX12) (N := 20) hts hiX12 hown rfl 1 (by decide) hk9 (fun _ h9 => h9) rfl dX12_addShop_168 ?_
      refine lv_sipush (v := 653) hx hb dX12_addShop_171 (by decide) ?_
      refine lv_iload hx hb dX12_addShop_174 (lv_at hl 0 rfl) ?_
      refine lv_iadd hx hb dX12_addShop_176 ?_
      refine lv_iload hx hb dX12_addShop_177 (lv_at hl 6 rfl) ?_
      obtain ⟨hin, hf⟩ := xs_f hf
      refine x_iast hx hb hw (cM1 hE) hin dX12_addShop_179 (fun σ25 H locs ex hw => ?_)
      replace hf := hf σ25 ex
      clear ex hin
      refine lv_iload hx hb dX12_addShop_180 (lv_at hl 0 rfl) ?_
      exact x_iret hx hb hr hlk hw hf dX12_addShop_182
    · replace hf := xif_pos c89 hf
      refine lv_iconst (v := 0) hx hb dX12_addShop_92 (by decide) ?_
      exact x_iret hx hb hr hlk hw hf dX12_addShop_93
  have h60 : ∀ (a1 : Int32) (a2 : Int32) (a3 : Int32) (a4 : Int32) (a5 : Int32) (t0 : Int32) (σ : xSt) (H : Heap) (locs : List Loc) (ls : Array Slot), xw E A s.heap s σ H locs → lv_has ls 7 [(0, .ref (E.a 0)), (1, .int a1), (2, .int a2), (3, .int a3), (4, .int a4), (5, .int a5)] → fX12_addShop_c60 a1 a2 a3 a4 a5 t0 σ = some (o1, o2) → W p l e rmX12_addShop s m args below meth c H locs 0 0 (MQ below (xQi E A o1 o2) args s 0 0 A) (F0 m 60 ls [.int t0, .ref (E.a 0)]) := by
    intro a1 a2 a3 a4 a5 t0 σ H locs ls hw hl hf
    unfold fX12_addShop_c60 at hf
    refine lv_iconst (v := 1) hx hb dX12_addShop_60 (by decide) ?_
    obtain ⟨r11, σ12, hcl, hf⟩ := xc2_f hf
    refine x_calli (va_runV (As := [.int t0, .int 1]) (rest := []) ⟨hx, hb, hml, hown, hts⟩ (mX12_can hE t0 1 σ r11 σ12 hcl H.size) (cwV 2 hts gX12_addShop_X12_can rfl rfl rfl (by decide +kernel) ⟨Nat.le_of_ble_eq_true rfl, Nat.le_of_ble_eq_true rfl⟩) (x_preV _ hw hA hG (cM0 hE) rfl) rfl rfl hl.1 rfl (lv_room (Nat.le_of_ble_eq_true rfl)) dX12_addShop_61 ⟨Nat.le_of_ble_eq_true rfl, Nat.le_of_ble_eq_true rfl⟩) hw hA (fun H locs hw => ?_)
    clear hcl
    refine lv_if_eq (tgt := 92) hx hb dX12_addShop_64 (by decide) (fun c64 => ?_) (fun c64 => ?_)
    · replace hf := xif_pos c64 hf
      refine lv_iconst (v := 0) hx hb dX12_addShop_92 (by decide) ?_
      exact x_iret hx hb hr hlk hw hf dX12_addShop_93
    · replace hf := xif_neg c64 hf
      refine lv_aload_n hx hb dX12_addShop_67 rfl (lv_at hl 0 rfl) ?_
      refine lv_aload_n hx hb dX12_addShop_68 rfl (lv_at hl 0 rfl) ?_
      refine x_getr hx hb hw (cM0 hE) (own := RX12) (ref := RX12) (C := RX12) (T := TX12) (N := 20) hts hiX12 hown rfl 1 (by decide) hk9 (fun _ h9 => h9) rfl dX12_addShop_69 ?_
      refine lv_bipush (v := 7) hx hb dX12_addShop_72 (by decide) ?_
      obtain ⟨hin, hf⟩ := xr_f hf
      refine x_iald hx hb hw (cM1 hE) hin dX12_addShop_74 ?_
      refine lv_topi (fun v13 ex => ?_)
      replace hf := hf v13 ex
      clear ex hin
      refine lv_bipush (v := 7) hx hb dX12_addShop_75 (by decide) ?_
      refine lv_icmp_ge (tgt := 84) hx hb dX12_addShop_77 (by decide) (fun c77 => ?_) (fun c77 => ?_)
      · replace hf := xif_pos c77 hf
        refine lv_iconst (v := 0) hx hb dX12_addShop_84 (by decide) ?_
        exact h85 a1 a2 a3 a4 a5 0 σ12 _ _ _ hw (lv_sub hl [0, 1, 2, 3, 4, 5] rfl) hf
      · replace hf := xif_neg c77 hf
        refine lv_iconst (v := 1) hx hb dX12_addShop_80 (by decide) ?_
        refine lv_goto (tgt := 85) hx hb dX12_addShop_81 (by decide) ?_
        exact h85 a1 a2 a3 a4 a5 1 σ12 _ _ _ hw (lv_sub hl [0, 1, 2, 3, 4, 5] rfl) hf
  have h59 : ∀ (a1 : Int32) (a2 : Int32) (a3 : Int32) (a4 : Int32) (a5 : Int32) (σ : xSt) (H : Heap) (locs : List Loc) (ls : Array Slot), xw E A s.heap s σ H locs → lv_has ls 7 [(0, .ref (E.a 0)), (1, .int a1), (2, .int a2), (3, .int a3), (4, .int a4), (5, .int a5)] → fX12_addShop_c59 a1 a2 a3 a4 a5 σ = some (o1, o2) → W p l e rmX12_addShop s m args below meth c H locs 0 0 (MQ below (xQi E A o1 o2) args s 0 0 A) (F0 m 59 ls [.ref (E.a 0)]) := by
    intro a1 a2 a3 a4 a5 σ H locs ls hw hl hf
    unfold fX12_addShop_c59 at hf
    refine lv_iconst (v := 0) hx hb dX12_addShop_59 (by decide) ?_
    exact h60 a1 a2 a3 a4 a5 0 σ _ _ _ hw (lv_sub hl [0, 1, 2, 3, 4, 5] rfl) hf
  refine lv_aload_n hx hb dX12_addShop_0 rfl (lv_at hl 0 rfl) ?_
  refine lv_iload_n hx hb dX12_addShop_1 rfl (lv_at hl 1 rfl) ?_
  refine lv_iconst (v := 0) hx hb dX12_addShop_2 (by decide) ?_
  refine lv_bipush (v := 20) hx hb dX12_addShop_3 (by decide) ?_
  obtain ⟨r1, σ2, hcl, hf⟩ := xc2_f hf
  refine x_calli (va_runS (As := [.int p0, .int 0, .int 20]) (rest := [.ref (E.a 0)]) ⟨hx, hb, hml, hown, hts⟩ (mX12_in hE p0 0 20 σ r1 σ2 hcl s.heap.size) (va_cwS 3 hts gX12_addShop_X12_in rfl rfl rfl (by decide +kernel) ⟨Nat.le_of_ble_eq_true rfl, Nat.le_of_ble_eq_true rfl⟩) (x_preS _ hw hA hG) rfl rfl hl.1 rfl (lv_room (Nat.le_of_ble_eq_true rfl)) dX12_addShop_5 ⟨Nat.le_of_ble_eq_true rfl, Nat.le_of_ble_eq_true rfl⟩) hw hA (fun H locs hw => ?_)
  clear hcl
  refine lv_if_eq (tgt := 59) hx hb dX12_addShop_8 (by decide) (fun c8 => ?_) (fun c8 => ?_)
  · replace hf := xif_pos c8 hf
    exact h59 p0 p1 p2 p3 p4 σ2 _ _ _ hw (lv_sub hl [0, 1, 2, 3, 4, 5] rfl) hf
  · replace hf := xif_neg c8 hf
    refine lv_iload_n hx hb dX12_addShop_11 rfl (lv_at hl 2 rfl) ?_
    refine lv_iconst (v := 0) hx hb dX12_addShop_12 (by decide) ?_
    refine lv_bipush (v := 20) hx hb dX12_addShop_13 (by decide) ?_
    obtain ⟨r3, σ4, hcl, hf⟩ := xc2_f hf
    refine x_calli (va_runS (As := [.int p1, .int 0, .int 20]) (rest := [.ref (E.a 0)]) ⟨hx, hb, hml, hown, hts⟩ (mX12_in hE p1 0 20 σ2 r3 σ4 hcl H.size) (va_cwS 3 hts gX12_addShop_X12_in rfl rfl rfl (by decide +kernel) ⟨Nat.le_of_ble_eq_true rfl, Nat.le_of_ble_eq_true rfl⟩) (x_preS _ hw hA hG) rfl rfl hl.1 rfl (lv_room (Nat.le_of_ble_eq_true rfl)) dX12_addShop_15 ⟨Nat.le_of_ble_eq_true rfl, Nat.le_of_ble_eq_true rfl⟩) hw hA (fun H locs hw => ?_)
    clear hcl
    refine lv_if_eq (tgt := 59) hx hb dX12_addShop_18 (by decide) (fun c18 => ?_) (fun c18 => ?_)
    · replace hf := xif_pos c18 hf
      exact h59 p0 p1 p2 p3 p4 σ4 _ _ _ hw (lv_sub hl [0, 1, 2, 3, 4, 5] rfl) hf
    · replace hf := xif_neg c18 hf
      refine lv_iload_n hx hb dX12_addShop_21 rfl (lv_at hl 3 rfl) ?_
      refine lv_iconst (v := 0) hx hb dX12_addShop_22 (by decide) ?_
      refine lv_sipush (v := 600) hx hb dX12_addShop_23 (by decide) ?_
      obtain ⟨r5, σ6, hcl, hf⟩ := xc2_f hf
      refine x_calli (va_runS (As := [.int p2, .int 0, .int 600]) (rest := [.ref (E.a 0)]) ⟨hx, hb, hml, hown, hts⟩ (mX12_in hE p2 0 600 σ4 r5 σ6 hcl H.size) (va_cwS 3 hts gX12_addShop_X12_in rfl rfl rfl (by decide +kernel) ⟨Nat.le_of_ble_eq_true rfl, Nat.le_of_ble_eq_true rfl⟩) (x_preS _ hw hA hG) rfl rfl hl.1 rfl (lv_room (Nat.le_of_ble_eq_true rfl)) dX12_addShop_26 ⟨Nat.le_of_ble_eq_true rfl, Nat.le_of_ble_eq_true rfl⟩) hw hA (fun H locs hw => ?_)
      clear hcl
      refine lv_if_eq (tgt := 59) hx hb dX12_addShop_29 (by decide) (fun c29 => ?_) (fun c29 => ?_)
      · replace hf := xif_pos c29 hf
        exact h59 p0 p1 p2 p3 p4 σ6 _ _ _ hw (lv_sub hl [0, 1, 2, 3, 4, 5] rfl) hf
      · replace hf := xif_neg c29 hf
        refine lv_iload hx hb dX12_addShop_32 (lv_at hl 4 rfl) ?_
        refine lv_iload_n hx hb dX12_addShop_34 rfl (lv_at hl 3 rfl) ?_
        refine lv_sipush (v := 600) hx hb dX12_addShop_35 (by decide) ?_
        obtain ⟨r7, σ8, hcl, hf⟩ := xc2_f hf
        refine x_calli (va_runS (As := [.int p3, .int p2, .int 600]) (rest := [.ref (E.a 0)]) ⟨hx, hb, hml, hown, hts⟩ (mX12_in hE p3 p2 600 σ6 r7 σ8 hcl H.size) (va_cwS 3 hts gX12_addShop_X12_in rfl rfl rfl (by decide +kernel) ⟨Nat.le_of_ble_eq_true rfl, Nat.le_of_ble_eq_true rfl⟩) (x_preS _ hw hA hG) rfl rfl hl.1 rfl (lv_room (Nat.le_of_ble_eq_true rfl)) dX12_addShop_38 ⟨Nat.le_of_ble_eq_true rfl, Nat.le_of_ble_eq_true rfl⟩) hw hA (fun H locs hw => ?_)
        clear hcl
        refine lv_if_eq (tgt := 59) hx hb dX12_addShop_41 (by decide) (fun c41 => ?_) (fun c41 => ?_)
        · replace hf := xif_pos c41 hf
          exact h59 p0 p1 p2 p3 p4 σ8 _ _ _ hw (lv_sub hl [0, 1, 2, 3, 4, 5] rfl) hf
        · replace hf := xif_neg c41 hf
          refine lv_iload hx hb dX12_addShop_44 (lv_at hl 5 rfl) ?_
          refine lv_iconst (v := 0) hx hb dX12_addShop_46 (by decide) ?_
          refine lv_bipush (v := 30) hx hb dX12_addShop_47 (by decide) ?_
          obtain ⟨r9, σ10, hcl, hf⟩ := xc2_f hf
          refine x_calli (va_runS (As := [.int p4, .int 0, .int 30]) (rest := [.ref (E.a 0)]) ⟨hx, hb, hml, hown, hts⟩ (mX12_in hE p4 0 30 σ8 r9 σ10 hcl H.size) (va_cwS 3 hts gX12_addShop_X12_in rfl rfl rfl (by decide +kernel) ⟨Nat.le_of_ble_eq_true rfl, Nat.le_of_ble_eq_true rfl⟩) (x_preS _ hw hA hG) rfl rfl hl.1 rfl (lv_room (Nat.le_of_ble_eq_true rfl)) dX12_addShop_49 ⟨Nat.le_of_ble_eq_true rfl, Nat.le_of_ble_eq_true rfl⟩) hw hA (fun H locs hw => ?_)
          clear hcl
          refine lv_if_eq (tgt := 59) hx hb dX12_addShop_52 (by decide) (fun c52 => ?_) (fun c52 => ?_)
          · replace hf := xif_pos c52 hf
            exact h59 p0 p1 p2 p3 p4 σ10 _ _ _ hw (lv_sub hl [0, 1, 2, 3, 4, 5] rfl) hf
          · replace hf := xif_neg c52 hf
            refine lv_iconst (v := 1) hx hb dX12_addShop_55 (by decide) ?_
            refine lv_goto (tgt := 60) hx hb dX12_addShop_56 (by decide) ?_
            exact h60 p0 p1 p2 p3 p4 1 σ10 _ _ _ hw (lv_sub hl [0, 1, 2, 3, 4, 5] rfl) hf

def fX12_swaps (p0 : Int32) (p1 : Int32) (σ : xSt) : Option xSt := (xr σ 11 8 p0 fun v1 => (xr σ 11 8 p1 fun v2 => (xs σ 11 8 p0 v2 fun σ3 => (xs σ3 11 8 p1 v1 fun σ4 => some σ4))))
abbrev rmX12_swaps : Room := { frames := 0, cells := 0, slots := 0, locals := 0 }
set_option maxRecDepth 100000 in
set_option maxHeartbeats 4000000 in
theorem mX12_swaps {l : Launch} {E : xE} (hE : E.sh = shM) (p0 : Int32) (p1 : Int32) (σ : xSt) (o1 : xSt) (hf : fX12_swaps p0 p1 σ = some o1) : xMv l yX12_swaps wsX12_swaps rmX12_swaps E [.ref (E.a 0), .int p0, .int p1] σ o1 := by
  unfold fX12_swaps at hf
  refine xMv_of (cc := cX12_swaps) (maxL := 4) (ret := none) (by decide) rfl (Nat.le_of_ble_eq_true rfl) ?_
  intro p e s m args below meth c A ls ⟨hx, hb, hr, hml, hown, hts, hlk⟩ hA hG hw hl
  have hown : s.vm.findClass RX12 = some m.cls := hown
  have hl : lv_has ls 4 [(0, .ref (E.a 0)), (1, .int p0), (2, .int p1)] := hl
  have hk40 := hts (.fieldLink RX12 40 "OvenRoundModel" "row" "[I") (by decide +kernel)
  have hiX12 : ∀ w ∈ wsX120, w ∈ wsX12_swaps := by decide +kernel
  refine lv_aload_n hx hb dX12_swaps_0 rfl (lv_at hl 0 rfl) ?_
  refine x_getr hx hb hw (cM0 hE) (own := RX12) (ref := RX12) (C := RX12) (T := TX12) (N := 20) hts hiX12 hown rfl 16 (by decide) hk40 (fun _ h9 => h9) rfl dX12_swaps_1 ?_
  refine lv_iload_n hx hb dX12_swaps_4 rfl (lv_at hl 1 rfl) ?_
  obtain ⟨hin, hf⟩ := xr_f hf
  refine x_iald hx hb hw (cM11 hE) hin dX12_swaps_5 ?_
  refine lv_topi (fun v1 ex => ?_)
  replace hf := hf v1 ex
  clear ex hin
  refine lv_istore_n (lv' := [(3, .int v1), (0, .ref (E.a 0)), (1, .int p0), (2, .int p1)]) hx hb dX12_swaps_6 rfl hl (by decide) rfl (fun ls hl => ?_)
  refine lv_aload_n hx hb dX12_swaps_7 rfl (lv_at hl 1 rfl) ?_
  refine x_getr hx hb hw (cM0 hE) (own := RX12) (ref := RX12) (C := RX12) (T := TX12) (N := 20) hts hiX12 hown rfl 16 (by decide) hk40 (fun _ h9 => h9) rfl dX12_swaps_8 ?_
  refine lv_iload_n hx hb dX12_swaps_11 rfl (lv_at hl 2 rfl) ?_
  refine lv_aload_n hx hb dX12_swaps_12 rfl (lv_at hl 1 rfl) ?_
  refine x_getr hx hb hw (cM0 hE) (own := RX12) (ref := RX12) (C := RX12) (T := TX12) (N := 20) hts hiX12 hown rfl 16 (by decide) hk40 (fun _ h9 => h9) rfl dX12_swaps_13 ?_
  refine lv_iload_n hx hb dX12_swaps_16 rfl (lv_at hl 3 rfl) ?_
  obtain ⟨hin, hf⟩ := xr_f hf
  refine x_iald hx hb hw (cM11 hE) hin dX12_swaps_17 ?_
  refine lv_topi (fun v2 ex => ?_)
  replace hf := hf v2 ex
  clear ex hin
  obtain ⟨hin, hf⟩ := xs_f hf
  refine x_iast hx hb hw (cM11 hE) hin dX12_swaps_18 (fun σ3 H locs ex hw => ?_)
  replace hf := hf σ3 ex
  clear ex hin
  refine lv_aload_n hx hb dX12_swaps_19 rfl (lv_at hl 1 rfl) ?_
  refine x_getr hx hb hw (cM0 hE) (own := RX12) (ref := RX12) (C := RX12) (T := TX12) (N := 20) hts hiX12 hown rfl 16 (by decide) hk40 (fun _ h9 => h9) rfl dX12_swaps_20 ?_
  refine lv_iload_n hx hb dX12_swaps_23 rfl (lv_at hl 3 rfl) ?_
  refine lv_iload_n hx hb dX12_swaps_24 rfl (lv_at hl 0 rfl) ?_
  obtain ⟨hin, hf⟩ := xs_f hf
  refine x_iast hx hb hw (cM11 hE) hin dX12_swaps_25 (fun σ4 H locs ex hw => ?_)
  replace hf := hf σ4 ex
  clear ex hin
  exact x_vret hx hb hr hlk hw hf dX12_swaps_26

def fX12_nextRow_c86 : Nat → Int32 → Int32 → xSt → Option (Int32 × xSt)
  | 0 => fun _ _ _ => none
  | n + 1 => fun a3 a4 σ => (if a4 ≤ a3 then some (1, σ) else (xc (fX12_swaps a3 a4 σ) fun σ14 => (xl (a3 + 1) fun v15 => (xl (a4 + (-1)) fun v16 => fX12_nextRow_c86 n v15 v16 σ14))))
theorem fX12_nextRow_c86_s (n : Nat) (a3 : Int32) (a4 : Int32) (σ : xSt) : fX12_nextRow_c86 (n + 1) a3 a4 σ = ((if a4 ≤ a3 then some (1, σ) else (xc (fX12_swaps a3 a4 σ) fun σ14 => (xl (a3 + 1) fun v15 => (xl (a4 + (-1)) fun v16 => fX12_nextRow_c86 n v15 v16 σ14)))) : Option (Int32 × xSt)) := rfl
def fX12_nextRow_c47 : Nat → Int32 → Int32 → xSt → Option (Int32 × xSt)
  | 0 => fun _ _ _ => none
  | n + 1 => fun a1 a2 σ => (xr σ 11 8 a2 fun v6 => (xr σ 11 8 a1 fun v7 => (if v7 ≤ v6 then (xc (fX12_swaps a1 a2 σ) fun σ9 => (xl (a1 + 1) fun v10 => (xl ((σ9 0 18) - 1) fun v11 => fX12_nextRow_c86 xFU v10 v11 σ9))) else (xl (a2 + (-1)) fun v12 => fX12_nextRow_c47 n a1 v12 σ))))
theorem fX12_nextRow_c47_s (n : Nat) (a1 : Int32) (a2 : Int32) (σ : xSt) : fX12_nextRow_c47 (n + 1) a1 a2 σ = ((xr σ 11 8 a2 fun v6 => (xr σ 11 8 a1 fun v7 => (if v7 ≤ v6 then (xc (fX12_swaps a1 a2 σ) fun σ9 => (xl (a1 + 1) fun v10 => (xl ((σ9 0 18) - 1) fun v11 => fX12_nextRow_c86 xFU v10 v11 σ9))) else (xl (a2 + (-1)) fun v12 => fX12_nextRow_c47 n a1 v12 σ)))) : Option (Int32 × xSt)) := rfl
def fX12_nextRow_c34 (a1 : Int32) (σ : xSt) : Option (Int32 × xSt) := (if 0 ≤ a1 then (xl ((σ 0 18) - 1) fun v5 => fX12_nextRow_c47 xFU a1 v5 σ) else some (0, σ))
def fX12_nextRow_c7 : Nat → Int32 → xSt → Option (Int32 × xSt)
  | 0 => fun _ _ => none
  | n + 1 => fun a1 σ => (if a1 < 0 then fX12_nextRow_c34 a1 σ else (xr σ 11 8 a1 fun v2 => (xr σ 11 8 (a1 + 1) fun v3 => (if v2 ≤ v3 then fX12_nextRow_c34 a1 σ else (xl (a1 + (-1)) fun v4 => fX12_nextRow_c7 n v4 σ)))))
theorem fX12_nextRow_c7_s (n : Nat) (a1 : Int32) (σ : xSt) : fX12_nextRow_c7 (n + 1) a1 σ = ((if a1 < 0 then fX12_nextRow_c34 a1 σ else (xr σ 11 8 a1 fun v2 => (xr σ 11 8 (a1 + 1) fun v3 => (if v2 ≤ v3 then fX12_nextRow_c34 a1 σ else (xl (a1 + (-1)) fun v4 => fX12_nextRow_c7 n v4 σ))))) : Option (Int32 × xSt)) := rfl
def fX12_nextRow (σ : xSt) : Option (Int32 × xSt) := (xl ((σ 0 18) - 2) fun v1 => fX12_nextRow_c7 xFU v1 σ)
abbrev rmX12_nextRow : Room := { frames := 1, cells := 0, slots := 0, locals := 23 }
set_option maxRecDepth 100000 in
set_option maxHeartbeats 4000000 in
theorem mX12_nextRow {l : Launch} {E : xE} (hE : E.sh = shM) (σ : xSt) (o1 : Int32) (o2 : xSt) (hf : fX12_nextRow σ = some (o1, o2)) : xMi l yX12_nextRow wsX12_nextRow rmX12_nextRow E [.ref (E.a 0)] σ o1 o2 := by
  unfold fX12_nextRow at hf
  refine xMi_of (cc := cX12_nextRow) (maxL := 5) (ret := (some .boolean)) (by decide) rfl (Nat.le_of_ble_eq_true rfl) ?_
  intro p e s m args below meth c A ls ⟨hx, hb, hr, hml, hown, hts, hlk⟩ hA hG hw hl
  have hown : s.vm.findClass RX12 = some m.cls := hown
  have hl : lv_has ls 5 [(0, .ref (E.a 0))] := hl
  have hk203 := hts (.fieldLink RX12 203 "OvenRoundModel" "many" "I") (by decide +kernel)
  have hiX12 : ∀ w ∈ wsX120, w ∈ wsX12_nextRow := by decide +kernel
  have hk40 := hts (.fieldLink RX12 40 "OvenRoundModel" "row" "[I") (by decide +kernel)
  have h86 : ∀ (n : Nat) (a3 : Int32) (a4 : Int32) (σ : xSt) (H : Heap) (locs : List Loc) (ls : Array Slot), xw E A s.heap s σ H locs → lv_has ls 5 [(0, .ref (E.a 0)), (3, .int a3), (4, .int a4)] → fX12_nextRow_c86 n a3 a4 σ = some (o1, o2) → W p l e rmX12_nextRow s m args below meth c H locs 0 0 (MQ below (xQi E A o1 o2) args s 0 0 A) (F0 m 86 ls []) := by
    intro n86
    induction n86 with
    | zero => intro a3 a4 σ H locs ls hw hl hf; exact nomatch hf
    | succ n86 ih86 =>
      intro a3 a4 σ H locs ls hw hl hf
      rw [fX12_nextRow_c86_s] at hf
      refine lv_iload_n hx hb dX12_nextRow_86 rfl (lv_at hl 1 rfl) ?_
      refine lv_iload hx hb dX12_nextRow_87 (lv_at hl 2 rfl) ?_
      refine lv_icmp_ge (tgt := 108) hx hb dX12_nextRow_89 (by decide) (fun c89 => ?_) (fun c89 => ?_)
      · replace hf := xif_pos c89 hf
        refine lv_iconst (v := 1) hx hb dX12_nextRow_108 (by decide) ?_
        exact x_zretc hx hb hr hlk hw (by decide) hf dX12_nextRow_109
      · replace hf := xif_neg c89 hf
        refine lv_aload_n hx hb dX12_nextRow_92 rfl (lv_at hl 0 rfl) ?_
        refine lv_iload_n hx hb dX12_nextRow_93 rfl (lv_at hl 1 rfl) ?_
        refine lv_iload hx hb dX12_nextRow_94 (lv_at hl 2 rfl) ?_
        obtain ⟨σ14, hcl, hf⟩ := xc_e hf
        refine x_callv (va_runV (As := [.int a3, .int a4]) (rest := []) ⟨hx, hb, hml, hown, hts⟩ (mX12_swaps hE a3 a4 σ σ14 hcl H.size) (cwV 2 hts gX12_nextRow_X12_swaps rfl rfl rfl (by decide +kernel) ⟨Nat.le_of_ble_eq_true rfl, Nat.le_of_ble_eq_true rfl⟩) (x_preV _ hw hA hG (cM0 hE) rfl) rfl rfl hl.1 rfl (lv_room (Nat.le_of_ble_eq_true rfl)) dX12_nextRow_96 ⟨Nat.le_of_ble_eq_true rfl, Nat.le_of_ble_eq_true rfl⟩) hw hA (fun H locs hw => ?_)
        clear hcl
        obtain ⟨v15, ex⟩ : ∃ y : Int32, y = (a3 + 1) := ⟨_, rfl⟩
        replace hf := xl_f hf v15 ex
        refine lv_iinc (v := v15) (lv' := [(3, .int v15), (0, .ref (E.a 0)), (4, .int a4)]) hx hb dX12_nextRow_99 hl (k := 1) rfl (by rw [ex]; rfl) (by decide) rfl (fun ls hl => ?_)
        clear ex
        obtain ⟨v16, ex⟩ : ∃ y : Int32, y = (a4 + (-1)) := ⟨_, rfl⟩
        replace hf := xl_f hf v16 ex
        refine lv_iinc (v := v16) (lv' := [(4, .int v16), (3, .int v15), (0, .ref (E.a 0))]) hx hb dX12_nextRow_102 hl (k := 2) rfl (by rw [ex]; rfl) (by decide) rfl (fun ls hl => ?_)
        clear ex
        refine lv_goto (tgt := 86) hx hb dX12_nextRow_105 (by decide) ?_
        exact ih86 v15 v16 σ14 _ _ _ hw (lv_sub hl [2, 1, 0] rfl) hf
  have h47 : ∀ (n : Nat) (a1 : Int32) (a2 : Int32) (σ : xSt) (H : Heap) (locs : List Loc) (ls : Array Slot), xw E A s.heap s σ H locs → lv_has ls 5 [(0, .ref (E.a 0)), (1, .int a1), (2, .int a2)] → fX12_nextRow_c47 n a1 a2 σ = some (o1, o2) → W p l e rmX12_nextRow s m args below meth c H locs 0 0 (MQ below (xQi E A o1 o2) args s 0 0 A) (F0 m 47 ls []) := by
    intro n47
    induction n47 with
    | zero => intro a1 a2 σ H locs ls hw hl hf; exact nomatch hf
    | succ n47 ih47 =>
      intro a1 a2 σ H locs ls hw hl hf
      rw [fX12_nextRow_c47_s] at hf
      refine lv_aload_n hx hb dX12_nextRow_47 rfl (lv_at hl 0 rfl) ?_
      refine x_getr hx hb hw (cM0 hE) (own := RX12) (ref := RX12) (C := RX12) (T := TX12) (N := 20) hts hiX12 hown rfl 16 (by decide) hk40 (fun _ h9 => h9) rfl dX12_nextRow_48 ?_
      refine lv_iload_n hx hb dX12_nextRow_51 rfl (lv_at hl 2 rfl) ?_
      obtain ⟨hin, hf⟩ := xr_f hf
      refine x_iald hx hb hw (cM11 hE) hin dX12_nextRow_52 ?_
      refine lv_topi (fun v6 ex => ?_)
      replace hf := hf v6 ex
      clear ex hin
      refine lv_aload_n hx hb dX12_nextRow_53 rfl (lv_at hl 0 rfl) ?_
      refine x_getr hx hb hw (cM0 hE) (own := RX12) (ref := RX12) (C := RX12) (T := TX12) (N := 20) hts hiX12 hown rfl 16 (by decide) hk40 (fun _ h9 => h9) rfl dX12_nextRow_54 ?_
      refine lv_iload_n hx hb dX12_nextRow_57 rfl (lv_at hl 1 rfl) ?_
      obtain ⟨hin, hf⟩ := xr_f hf
      refine x_iald hx hb hw (cM11 hE) hin dX12_nextRow_58 ?_
      refine lv_topi (fun v7 ex => ?_)
      replace hf := hf v7 ex
      clear ex hin
      refine lv_icmp_ge (tgt := 68) hx hb dX12_nextRow_59 (by decide) (fun c59 => ?_) (fun c59 => ?_)
      · replace hf := xif_pos c59 hf
        refine lv_aload_n hx hb dX12_nextRow_68 rfl (lv_at hl 0 rfl) ?_
        refine lv_iload_n hx hb dX12_nextRow_69 rfl (lv_at hl 1 rfl) ?_
        refine lv_iload_n hx hb dX12_nextRow_70 rfl (lv_at hl 2 rfl) ?_
        obtain ⟨σ9, hcl, hf⟩ := xc_e hf
        refine x_callv (va_runV (As := [.int a1, .int a2]) (rest := []) ⟨hx, hb, hml, hown, hts⟩ (mX12_swaps hE a1 a2 σ σ9 hcl H.size) (cwV 2 hts gX12_nextRow_X12_swaps rfl rfl rfl (by decide +kernel) ⟨Nat.le_of_ble_eq_true rfl, Nat.le_of_ble_eq_true rfl⟩) (x_preV _ hw hA hG (cM0 hE) rfl) rfl rfl hl.1 rfl (lv_room (Nat.le_of_ble_eq_true rfl)) dX12_nextRow_71 ⟨Nat.le_of_ble_eq_true rfl, Nat.le_of_ble_eq_true rfl⟩) hw hA (fun H locs hw => ?_)
        clear hcl
        refine lv_iload_n hx hb dX12_nextRow_74 rfl (lv_at hl 1 rfl) ?_
        refine lv_iconst (v := 1) hx hb dX12_nextRow_75 (by decide) ?_
        refine lv_iadd hx hb dX12_nextRow_76 ?_
        refine lv_topi (fun v10 ex => ?_)
        replace hf := xl_f hf v10 ex
        clear ex
        refine lv_istore_n (lv' := [(3, .int v10), (0, .ref (E.a 0)), (1, .int a1), (2, .int a2)]) hx hb dX12_nextRow_77 rfl hl (by decide) rfl (fun ls hl => ?_)
        refine lv_aload_n hx hb dX12_nextRow_78 rfl (lv_at hl 1 rfl) ?_
        refine x_geti hx hb hw (cM0 hE) (own := RX12) (ref := RX12) (C := RX12) (T := TX12) (N := 20) hts hiX12 hown rfl 18 (by decide) hk203 (fun _ h9 => h9) rfl dX12_nextRow_79 ?_
        refine lv_iconst (v := 1) hx hb dX12_nextRow_82 (by decide) ?_
        refine lv_isub hx hb dX12_nextRow_83 ?_
        refine lv_topi (fun v11 ex => ?_)
        replace hf := xl_f hf v11 ex
        clear ex
        refine lv_istore (lv' := [(4, .int v11), (3, .int v10), (0, .ref (E.a 0)), (1, .int a1), (2, .int a2)]) hx hb dX12_nextRow_84 hl (by decide) rfl (fun ls hl => ?_)
        exact h86 xFU v10 v11 σ9 _ _ _ hw (lv_sub hl [2, 1, 0] rfl) hf
      · replace hf := xif_neg c59 hf
        obtain ⟨v12, ex⟩ : ∃ y : Int32, y = (a2 + (-1)) := ⟨_, rfl⟩
        replace hf := xl_f hf v12 ex
        refine lv_iinc (v := v12) (lv' := [(2, .int v12), (0, .ref (E.a 0)), (1, .int a1)]) hx hb dX12_nextRow_62 hl (k := 2) rfl (by rw [ex]; rfl) (by decide) rfl (fun ls hl => ?_)
        clear ex
        refine lv_goto (tgt := 47) hx hb dX12_nextRow_65 (by decide) ?_
        exact ih47 a1 v12 σ _ _ _ hw (lv_sub hl [1, 2, 0] rfl) hf
  have h34 : ∀ (a1 : Int32) (σ : xSt) (H : Heap) (locs : List Loc) (ls : Array Slot), xw E A s.heap s σ H locs → lv_has ls 5 [(0, .ref (E.a 0)), (1, .int a1)] → fX12_nextRow_c34 a1 σ = some (o1, o2) → W p l e rmX12_nextRow s m args below meth c H locs 0 0 (MQ below (xQi E A o1 o2) args s 0 0 A) (F0 m 34 ls []) := by
    intro a1 σ H locs ls hw hl hf
    unfold fX12_nextRow_c34 at hf
    refine lv_iload_n hx hb dX12_nextRow_34 rfl (lv_at hl 1 rfl) ?_
    refine lv_if_ge (tgt := 40) hx hb dX12_nextRow_35 (by decide) (fun c35 => ?_) (fun c35 => ?_)
    · replace hf := xif_pos c35 hf
      refine lv_aload_n hx hb dX12_nextRow_40 rfl (lv_at hl 0 rfl) ?_
      refine x_geti hx hb hw (cM0 hE) (own := RX12) (ref := RX12) (C := RX12) (T := TX12) (N := 20) hts hiX12 hown rfl 18 (by decide) hk203 (fun _ h9 => h9) rfl dX12_nextRow_41 ?_
      refine lv_iconst (v := 1) hx hb dX12_nextRow_44 (by decide) ?_
      refine lv_isub hx hb dX12_nextRow_45 ?_
      refine lv_topi (fun v5 ex => ?_)
      replace hf := xl_f hf v5 ex
      clear ex
      refine lv_istore_n (lv' := [(2, .int v5), (0, .ref (E.a 0)), (1, .int a1)]) hx hb dX12_nextRow_46 rfl hl (by decide) rfl (fun ls hl => ?_)
      exact h47 xFU a1 v5 σ _ _ _ hw (lv_sub hl [1, 2, 0] rfl) hf
    · replace hf := xif_neg c35 hf
      refine lv_iconst (v := 0) hx hb dX12_nextRow_38 (by decide) ?_
      exact x_zretc hx hb hr hlk hw (by decide) hf dX12_nextRow_39
  have h7 : ∀ (n : Nat) (a1 : Int32) (σ : xSt) (H : Heap) (locs : List Loc) (ls : Array Slot), xw E A s.heap s σ H locs → lv_has ls 5 [(0, .ref (E.a 0)), (1, .int a1)] → fX12_nextRow_c7 n a1 σ = some (o1, o2) → W p l e rmX12_nextRow s m args below meth c H locs 0 0 (MQ below (xQi E A o1 o2) args s 0 0 A) (F0 m 7 ls []) := by
    intro n7
    induction n7 with
    | zero => intro a1 σ H locs ls hw hl hf; exact nomatch hf
    | succ n7 ih7 =>
      intro a1 σ H locs ls hw hl hf
      rw [fX12_nextRow_c7_s] at hf
      refine lv_iload_n hx hb dX12_nextRow_7 rfl (lv_at hl 1 rfl) ?_
      refine lv_if_lt (tgt := 34) hx hb dX12_nextRow_8 (by decide) (fun c8 => ?_) (fun c8 => ?_)
      · replace hf := xif_pos c8 hf
        exact h34 a1 σ _ _ _ hw (lv_sub hl [0, 1] rfl) hf
      · replace hf := xif_neg c8 hf
        refine lv_aload_n hx hb dX12_nextRow_11 rfl (lv_at hl 0 rfl) ?_
        refine x_getr hx hb hw (cM0 hE) (own := RX12) (ref := RX12) (C := RX12) (T := TX12) (N := 20) hts hiX12 hown rfl 16 (by decide) hk40 (fun _ h9 => h9) rfl dX12_nextRow_12 ?_
        refine lv_iload_n hx hb dX12_nextRow_15 rfl (lv_at hl 1 rfl) ?_
        obtain ⟨hin, hf⟩ := xr_f hf
        refine x_iald hx hb hw (cM11 hE) hin dX12_nextRow_16 ?_
        refine lv_topi (fun v2 ex => ?_)
        replace hf := hf v2 ex
        clear ex hin
        refine lv_aload_n hx hb dX12_nextRow_17 rfl (lv_at hl 0 rfl) ?_
        refine x_getr hx hb hw (cM0 hE) (own := RX12) (ref := RX12) (C := RX12) (T := TX12) (N := 20) hts hiX12 hown rfl 16 (by decide) hk40 (fun _ h9 => h9) rfl dX12_nextRow_18 ?_
        refine lv_iload_n hx hb dX12_nextRow_21 rfl (lv_at hl 1 rfl) ?_
        refine lv_iconst (v := 1) hx hb dX12_nextRow_22 (by decide) ?_
        refine lv_iadd hx hb dX12_nextRow_23 ?_
        obtain ⟨hin, hf⟩ := xr_f hf
        refine x_iald hx hb hw (cM11 hE) hin dX12_nextRow_24 ?_
        refine lv_topi (fun v3 ex => ?_)
        replace hf := hf v3 ex
        clear ex hin
        refine lv_icmp_le (tgt := 34) hx hb dX12_nextRow_25 (by decide) (fun c25 => ?_) (fun c25 => ?_)
        · replace hf := xif_pos c25 hf
          exact h34 a1 σ _ _ _ hw (lv_sub hl [0, 1] rfl) hf
        · replace hf := xif_neg c25 hf
          obtain ⟨v4, ex⟩ : ∃ y : Int32, y = (a1 + (-1)) := ⟨_, rfl⟩
          replace hf := xl_f hf v4 ex
          refine lv_iinc (v := v4) (lv' := [(1, .int v4), (0, .ref (E.a 0))]) hx hb dX12_nextRow_28 hl (k := 1) rfl (by rw [ex]; rfl) (by decide) rfl (fun ls hl => ?_)
          clear ex
          refine lv_goto (tgt := 7) hx hb dX12_nextRow_31 (by decide) ?_
          exact ih7 v4 σ _ _ _ hw (lv_sub hl [1, 0] rfl) hf
  refine lv_aload_n hx hb dX12_nextRow_0 rfl (lv_at hl 0 rfl) ?_
  refine x_geti hx hb hw (cM0 hE) (own := RX12) (ref := RX12) (C := RX12) (T := TX12) (N := 20) hts hiX12 hown rfl 18 (by decide) hk203 (fun _ h9 => h9) rfl dX12_nextRow_1 ?_
  refine lv_iconst (v := 2) hx hb dX12_nextRow_4 (by decide) ?_
  refine lv_isub hx hb dX12_nextRow_5 ?_
  refine lv_topi (fun v1 ex => ?_)
  replace hf := xl_f hf v1 ex
  clear ex
  refine lv_istore_n (lv' := [(1, .int v1), (0, .ref (E.a 0))]) hx hb dX12_nextRow_6 rfl hl (by decide) rfl (fun ls hl => ?_)
  exact h7 xFU v1 σ _ _ _ hw (lv_sub hl [1, 0] rfl) hf

def fX12_distance (p0 : Int32) (p1 : Int32) (σ : xSt) : Option (Int32 × xSt) := (if p1 ≤ p0 then some ((p0 - p1), σ) else some ((p1 - p0), σ))
abbrev rmX12_distance : Room := { frames := 0, cells := 0, slots := 0, locals := 0 }
set_option maxRecDepth 100000 in
set_option maxHeartbeats 4000000 in
theorem mX12_distance {l : Launch} {E : xE} (hE : E.sh = shM) (p0 : Int32) (p1 : Int32) (σ : xSt) (o1 : Int32) (o2 : xSt) (hf : fX12_distance p0 p1 σ = some (o1, o2)) : xMi l yX12_distance wsX12_distance rmX12_distance E [.int p0, .int p1] σ o1 o2 := by
  unfold fX12_distance at hf
  refine xMi_of (cc := cX12_distance) (maxL := 2) (ret := (some .int)) (by decide) rfl (Nat.le_of_ble_eq_true rfl) ?_
  intro p e s m args below meth c A ls ⟨hx, hb, hr, hml, hown, hts, hlk⟩ hA hG hw hl
  have hown : s.vm.findClass RX12 = some m.cls := hown
  have hl : lv_has ls 2 [(0, .int p0), (1, .int p1)] := hl
  refine lv_iload_n hx hb dX12_distance_0 rfl (lv_at hl 0 rfl) ?_
  refine lv_iload_n hx hb dX12_distance_1 rfl (lv_at hl 1 rfl) ?_
  refine lv_icmp_ge (tgt := 11) hx hb dX12_distance_2 (by decide) (fun c2 => ?_) (fun c2 => ?_)
  · replace hf := xif_pos c2 hf
    refine lv_iload_n hx hb dX12_distance_11 rfl (lv_at hl 0 rfl) ?_
    refine lv_iload_n hx hb dX12_distance_12 rfl (lv_at hl 1 rfl) ?_
    refine lv_isub hx hb dX12_distance_13 ?_
    exact x_iret hx hb hr hlk hw hf dX12_distance_14
  · replace hf := xif_neg c2 hf
    refine lv_iload_n hx hb dX12_distance_5 rfl (lv_at hl 1 rfl) ?_
    refine lv_iload_n hx hb dX12_distance_6 rfl (lv_at hl 0 rfl) ?_
    refine lv_isub hx hb dX12_distance_7 ?_
    refine lv_goto (tgt := 14) hx hb dX12_distance_8 (by decide) ?_
    exact x_iret hx hb hr hlk hw hf dX12_distance_14
