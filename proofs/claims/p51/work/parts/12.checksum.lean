def fX11_checksum_c99 : Nat → Int64 → Int32 → xSt → Option (Int64 × xSt)
  | 0 => fun _ _ _ => none
  | n + 1 => fun a1 a3 σ => (if ((σ 4 7) * 4) ≤ a3 then some (a1, σ) else (xr σ 28 24 a3 fun v10 => (xl ((31 * a1) + (Int32.toInt64 v10)) fun v11 => (xl (a3 + 1) fun v12 => fX11_checksum_c99 n v11 v12 σ))))
theorem fX11_checksum_c99_s (n : Nat) (a1 : Int64) (a3 : Int32) (σ : xSt) : fX11_checksum_c99 (n + 1) a1 a3 σ = ((if ((σ 4 7) * 4) ≤ a3 then some (a1, σ) else (xr σ 28 24 a3 fun v10 => (xl ((31 * a1) + (Int32.toInt64 v10)) fun v11 => (xl (a3 + 1) fun v12 => fX11_checksum_c99 n v11 v12 σ)))) : Option (Int64 × xSt)) := rfl
def fX11_checksum_c46 : Nat → Int64 → Int32 → xSt → Option (Int64 × xSt)
  | 0 => fun _ _ _ => none
  | n + 1 => fun a1 a3 σ => (if (σ 12 7) ≤ a3 then fX11_checksum_c99 xFU a1 0 σ else (xr σ 17 20 a3 fun v5 => (xl ((31 * a1) + (Int32.toInt64 v5)) fun v6 => (xr σ 16 20 a3 fun v7 => (xl ((31 * v6) + (Int32.toInt64 v7)) fun v8 => (xl (a3 + 1) fun v9 => fX11_checksum_c46 n v8 v9 σ))))))
theorem fX11_checksum_c46_s (n : Nat) (a1 : Int64) (a3 : Int32) (σ : xSt) : fX11_checksum_c46 (n + 1) a1 a3 σ = ((if (σ 12 7) ≤ a3 then fX11_checksum_c99 xFU a1 0 σ else (xr σ 17 20 a3 fun v5 => (xl ((31 * a1) + (Int32.toInt64 v5)) fun v6 => (xr σ 16 20 a3 fun v7 => (xl ((31 * v6) + (Int32.toInt64 v7)) fun v8 => (xl (a3 + 1) fun v9 => fX11_checksum_c46 n v8 v9 σ)))))) : Option (Int64 × xSt)) := rfl
def fX11_checksum_c15 : Nat → Int64 → Int32 → xSt → Option (Int64 × xSt)
  | 0 => fun _ _ _ => none
  | n + 1 => fun a1 a3 σ => (if 8 ≤ a3 then fX11_checksum_c46 xFU a1 0 σ else (xr σ 3 8 a3 fun v2 => (xl ((31 * a1) + (Int32.toInt64 v2)) fun v3 => (xl (a3 + 1) fun v4 => fX11_checksum_c15 n v3 v4 σ))))
theorem fX11_checksum_c15_s (n : Nat) (a1 : Int64) (a3 : Int32) (σ : xSt) : fX11_checksum_c15 (n + 1) a1 a3 σ = ((if 8 ≤ a3 then fX11_checksum_c46 xFU a1 0 σ else (xr σ 3 8 a3 fun v2 => (xl ((31 * a1) + (Int32.toInt64 v2)) fun v3 => (xl (a3 + 1) fun v4 => fX11_checksum_c15 n v3 v4 σ)))) : Option (Int64 × xSt)) := rfl
def fX11_checksum (σ : xSt) : Option (Int64 × xSt) := (xl (527 + (Int32.toInt64 (σ 20 0))) fun v1 => fX11_checksum_c15 xFU v1 0 σ)
abbrev rmX11_checksum : Room := { frames := 0, cells := 0, slots := 0, locals := 0 }
set_option maxRecDepth 100000 in
set_option maxHeartbeats 4000000 in
theorem mX11_checksum {l : Launch} {E : xE} (hE : E.sh = shX) (σ : xSt) (o1 : Int64) (o2 : xSt) (hf : fX11_checksum σ = some (o1, o2)) : xMl l yX11_checksum wsX11_checksum rmX11_checksum E [.ref (E.a 0)] σ o1 o2 := by
  unfold fX11_checksum at hf
  refine xMl_of (cc := cX11_checksum) (maxL := 4) (ret := (some .long)) (by decide) rfl (Nat.le_of_ble_eq_true rfl) ?_
  intro p e s m args below meth c A ls ⟨hx, hb, hr, hml, hown, hts, hlk⟩ hA hG hw hl
  have hown : s.vm.findClass RX11 = some m.cls := hown
  have hl : lv_has ls 4 [(0, .ref (E.a 0))] := hl
  have hk41 := hts (.fieldLink RX11 41 "OvenRound" "oven" "LOvenRound$Oven;") (by decide +kernel)
  have hiX11 : ∀ w ∈ wsX110, w ∈ wsX11_checksum := by decide +kernel
  have hk186 := hts (.fieldLink RX11 186 "OvenRound$Oven" "tick" "I") (by decide +kernel)
  have hiX5 : ∀ w ∈ wsX50, w ∈ wsX11_checksum := by decide +kernel
  have hk24 := hts (.fieldLink RX11 24 "OvenRound" "store" "LOvenRound$Store;") (by decide +kernel)
  have hk107 := hts (.fieldLink RX11 107 "OvenRound$Store" "grams" "[I") (by decide +kernel)
  have hiX10 : ∀ w ∈ wsX100, w ∈ wsX11_checksum := by decide +kernel
  have hk36 := hts (.fieldLink RX11 36 "OvenRound" "doughs" "LOvenRound$Doughs;") (by decide +kernel)
  have hk175 := hts (.fieldLink RX11 175 "OvenRound$Doughs" "count" "I") (by decide +kernel)
  have hiX2 : ∀ w ∈ wsX20, w ∈ wsX11_checksum := by decide +kernel
  have hk207 := hts (.fieldLink RX11 207 "OvenRound$Doughs" "state" "[I") (by decide +kernel)
  have hk213 := hts (.fieldLink RX11 213 "OvenRound$Doughs" "points" "[I") (by decide +kernel)
  have hk31 := hts (.fieldLink RX11 31 "OvenRound" "recipes" "LOvenRound$Recipes;") (by decide +kernel)
  have hk121 := hts (.fieldLink RX11 121 "OvenRound$Recipes" "count" "I") (by decide +kernel)
  have hiX8 : ∀ w ∈ wsX80, w ∈ wsX11_checksum := by decide +kernel
  have hk55 := hts (.fieldLink RX11 55 "OvenRound" "breads" "LOvenRound$Breads;") (by decide +kernel)
  have hk258 := hts (.fieldLink RX11 258 "OvenRound$Breads" "pieces" "[I") (by decide +kernel)
  have hiX0 : ∀ w ∈ wsX00, w ∈ wsX11_checksum := by decide +kernel
  have h99 : ∀ (n : Nat) (a1 : Int64) (a3 : Int32) (σ : xSt) (H : Heap) (locs : List Loc) (ls : Array Slot), xw E A s.heap s σ H locs → lv_has ls 4 [(0, .ref (E.a 0)), (1, .long a1), (3, .int a3)] → fX11_checksum_c99 n a1 a3 σ = some (o1, o2) → W p l e rmX11_checksum s m args below meth c H locs 0 0 (MQ below (xQl E A o1 o2) args s 0 0 A) (F0 m 99 ls []) := by
    intro n99
    induction n99 with
    | zero => intro a1 a3 σ H locs ls hw hl hf; exact nomatch hf
    | succ n99 ih99 =>
      intro a1 a3 σ H locs ls hw hl hf
      rw [fX11_checksum_c99_s] at hf
      refine lv_iload_n hx hb dX11_checksum_99 rfl (lv_at hl 2 rfl) ?_
      refine lv_aload_n hx hb dX11_checksum_100 rfl (lv_at hl 0 rfl) ?_
      refine x_getr hx hb hw (cX0 hE) (own := RX11) (ref := RX11) (C := RX11) (T := TX11) (N := 14) hts hiX11 hown rfl 1 (by decide) hk31 (fun _ h9 => h9) rfl dX11_checksum_101 ?_
      refine x_geti hx hb hw (cX4 hE) (own := RX11) (ref := RX8) (C := RX8) (T := TX8) (N := 8) hts hiX8 hown rfl 7 (by decide) hk121 (fun _ h9 => h9) rfl dX11_checksum_104 ?_
      refine lv_iconst (v := 4) hx hb dX11_checksum_107 (by decide) ?_
      refine lv_imul hx hb dX11_checksum_108 ?_
      refine lv_icmp_ge (tgt := 135) hx hb dX11_checksum_109 (by decide) (fun c109 => ?_) (fun c109 => ?_)
      · replace hf := xif_pos c109 hf
        refine lv_lload_n hx hb dX11_checksum_135 rfl (lv_at hl 1 rfl) ?_
        exact x_lret hx hb hr hlk hw hf dX11_checksum_136
      · replace hf := xif_neg c109 hf
        refine lv_ldc2 hx hb hown (hts (.constantLong RX11 392 (31)) (by decide +kernel)) dX11_checksum_112 ?_
        refine lv_lload_n hx hb dX11_checksum_115 rfl (lv_at hl 1 rfl) ?_
        refine lv_lmul hx hb dX11_checksum_116 ?_
        refine lv_aload_n hx hb dX11_checksum_117 rfl (lv_at hl 0 rfl) ?_
        refine x_getr hx hb hw (cX0 hE) (own := RX11) (ref := RX11) (C := RX11) (T := TX11) (N := 14) hts hiX11 hown rfl 5 (by decide) hk55 (fun _ h9 => h9) rfl dX11_checksum_118 ?_
        refine x_getr hx hb hw (cX27 hE) (own := RX11) (ref := RX0) (C := RX0) (T := TX0) (N := 1) hts hiX0 hown rfl 0 (by decide) hk258 (fun _ h9 => h9) rfl dX11_checksum_121 ?_
        refine lv_iload_n hx hb dX11_checksum_124 rfl (lv_at hl 2 rfl) ?_
        obtain ⟨hin, hf⟩ := xr_f hf
        refine x_iald hx hb hw (cX28 hE) hin dX11_checksum_125 ?_
        refine lv_topi (fun v10 ex => ?_)
        replace hf := hf v10 ex
        clear ex hin
        refine lv_i2l hx hb dX11_checksum_126 rfl ?_
        refine lv_ladd hx hb dX11_checksum_127 ?_
        refine lv_topl (fun v11 ex => ?_)
        replace hf := xl_f hf v11 ex
        clear ex
        refine lv_lstore_n (lv' := [(1, .long v11), (0, .ref (E.a 0)), (3, .int a3)]) hx hb dX11_checksum_128 rfl hl (by decide) rfl (fun ls hl => ?_)
        obtain ⟨v12, ex⟩ : ∃ y : Int32, y = (a3 + 1) := ⟨_, rfl⟩
        replace hf := xl_f hf v12 ex
        refine lv_iinc (v := v12) (lv' := [(3, .int v12), (1, .long v11), (0, .ref (E.a 0))]) hx hb dX11_checksum_129 hl (k := 2) rfl (by rw [ex]; rfl) (by decide) rfl (fun ls hl => ?_)
        clear ex
        refine lv_goto (tgt := 99) hx hb dX11_checksum_132 (by decide) ?_
        exact ih99 v11 v12 σ _ _ _ hw (lv_sub hl [2, 1, 0] rfl) hf
  have h46 : ∀ (n : Nat) (a1 : Int64) (a3 : Int32) (σ : xSt) (H : Heap) (locs : List Loc) (ls : Array Slot), xw E A s.heap s σ H locs → lv_has ls 4 [(0, .ref (E.a 0)), (1, .long a1), (3, .int a3)] → fX11_checksum_c46 n a1 a3 σ = some (o1, o2) → W p l e rmX11_checksum s m args below meth c H locs 0 0 (MQ below (xQl E A o1 o2) args s 0 0 A) (F0 m 46 ls []) := by
    intro n46
    induction n46 with
    | zero => intro a1 a3 σ H locs ls hw hl hf; exact nomatch hf
    | succ n46 ih46 =>
      intro a1 a3 σ H locs ls hw hl hf
      rw [fX11_checksum_c46_s] at hf
      refine lv_iload_n hx hb dX11_checksum_46 rfl (lv_at hl 2 rfl) ?_
      refine lv_aload_n hx hb dX11_checksum_47 rfl (lv_at hl 0 rfl) ?_
      refine x_getr hx hb hw (cX0 hE) (own := RX11) (ref := RX11) (C := RX11) (T := TX11) (N := 14) hts hiX11 hown rfl 2 (by decide) hk36 (fun _ h9 => h9) rfl dX11_checksum_48 ?_
      refine x_geti hx hb hw (cX12 hE) (own := RX11) (ref := RX2) (C := RX2) (T := TX2) (N := 8) hts hiX2 hown rfl 7 (by decide) hk175 (fun _ h9 => h9) rfl dX11_checksum_51 ?_
      refine lv_icmp_ge (tgt := 97) hx hb dX11_checksum_54 (by decide) (fun c54 => ?_) (fun c54 => ?_)
      · replace hf := xif_pos c54 hf
        refine lv_iconst (v := 0) hx hb dX11_checksum_97 (by decide) ?_
        refine lv_istore_n (lv' := [(3, .int 0), (0, .ref (E.a 0)), (1, .long a1)]) hx hb dX11_checksum_98 rfl hl (by decide) rfl (fun ls hl => ?_)
        exact h99 xFU a1 0 σ _ _ _ hw (lv_sub hl [1, 2, 0] rfl) hf
      · replace hf := xif_neg c54 hf
        refine lv_ldc2 hx hb hown (hts (.constantLong RX11 392 (31)) (by decide +kernel)) dX11_checksum_57 ?_
        refine lv_lload_n hx hb dX11_checksum_60 rfl (lv_at hl 1 rfl) ?_
        refine lv_lmul hx hb dX11_checksum_61 ?_
        refine lv_aload_n hx hb dX11_checksum_62 rfl (lv_at hl 0 rfl) ?_
        refine x_getr hx hb hw (cX0 hE) (own := RX11) (ref := RX11) (C := RX11) (T := TX11) (N := 14) hts hiX11 hown rfl 2 (by decide) hk36 (fun _ h9 => h9) rfl dX11_checksum_63 ?_
        refine x_getr hx hb hw (cX12 hE) (own := RX11) (ref := RX2) (C := RX2) (T := TX2) (N := 8) hts hiX2 hown rfl 4 (by decide) hk207 (fun _ h9 => h9) rfl dX11_checksum_66 ?_
        refine lv_iload_n hx hb dX11_checksum_69 rfl (lv_at hl 2 rfl) ?_
        obtain ⟨hin, hf⟩ := xr_f hf
        refine x_iald hx hb hw (cX17 hE) hin dX11_checksum_70 ?_
        refine lv_topi (fun v5 ex => ?_)
        replace hf := hf v5 ex
        clear ex hin
        refine lv_i2l hx hb dX11_checksum_71 rfl ?_
        refine lv_ladd hx hb dX11_checksum_72 ?_
        refine lv_topl (fun v6 ex => ?_)
        replace hf := xl_f hf v6 ex
        clear ex
        refine lv_lstore_n (lv' := [(1, .long v6), (0, .ref (E.a 0)), (3, .int a3)]) hx hb dX11_checksum_73 rfl hl (by decide) rfl (fun ls hl => ?_)
        refine lv_ldc2 hx hb hown (hts (.constantLong RX11 392 (31)) (by decide +kernel)) dX11_checksum_74 ?_
        refine lv_lload_n hx hb dX11_checksum_77 rfl (lv_at hl 0 rfl) ?_
        refine lv_lmul hx hb dX11_checksum_78 ?_
        refine lv_aload_n hx hb dX11_checksum_79 rfl (lv_at hl 1 rfl) ?_
        refine x_getr hx hb hw (cX0 hE) (own := RX11) (ref := RX11) (C := RX11) (T := TX11) (N := 14) hts hiX11 hown rfl 2 (by decide) hk36 (fun _ h9 => h9) rfl dX11_checksum_80 ?_
        refine x_getr hx hb hw (cX12 hE) (own := RX11) (ref := RX2) (C := RX2) (T := TX2) (N := 8) hts hiX2 hown rfl 3 (by decide) hk213 (fun _ h9 => h9) rfl dX11_checksum_83 ?_
        refine lv_iload_n hx hb dX11_checksum_86 rfl (lv_at hl 2 rfl) ?_
        obtain ⟨hin, hf⟩ := xr_f hf
        refine x_iald hx hb hw (cX16 hE) hin dX11_checksum_87 ?_
        refine lv_topi (fun v7 ex => ?_)
        replace hf := hf v7 ex
        clear ex hin
        refine lv_i2l hx hb dX11_checksum_88 rfl ?_
        refine lv_ladd hx hb dX11_checksum_89 ?_
        refine lv_topl (fun v8 ex => ?_)
        replace hf := xl_f hf v8 ex
        clear ex
        refine lv_lstore_n (lv' := [(1, .long v8), (0, .ref (E.a 0)), (3, .int a3)]) hx hb dX11_checksum_90 rfl hl (by decide) rfl (fun ls hl => ?_)
        obtain ⟨v9, ex⟩ : ∃ y : Int32, y = (a3 + 1) := ⟨_, rfl⟩
        replace hf := xl_f hf v9 ex
        refine lv_iinc (v := v9) (lv' := [(3, .int v9), (1, .long v8), (0, .ref (E.a 0))]) hx hb dX11_checksum_91 hl (k := 2) rfl (by rw [ex]; rfl) (by decide) rfl (fun ls hl => ?_)
        clear ex
        refine lv_goto (tgt := 46) hx hb dX11_checksum_94 (by decide) ?_
        exact ih46 v8 v9 σ _ _ _ hw (lv_sub hl [2, 1, 0] rfl) hf
  have h15 : ∀ (n : Nat) (a1 : Int64) (a3 : Int32) (σ : xSt) (H : Heap) (locs : List Loc) (ls : Array Slot), xw E A s.heap s σ H locs → lv_has ls 4 [(0, .ref (E.a 0)), (1, .long a1), (3, .int a3)] → fX11_checksum_c15 n a1 a3 σ = some (o1, o2) → W p l e rmX11_checksum s m args below meth c H locs 0 0 (MQ below (xQl E A o1 o2) args s 0 0 A) (F0 m 15 ls []) := by
    intro n15
    induction n15 with
    | zero => intro a1 a3 σ H locs ls hw hl hf; exact nomatch hf
    | succ n15 ih15 =>
      intro a1 a3 σ H locs ls hw hl hf
      rw [fX11_checksum_c15_s] at hf
      refine lv_iload_n hx hb dX11_checksum_15 rfl (lv_at hl 2 rfl) ?_
      refine lv_bipush (v := 8) hx hb dX11_checksum_16 (by decide) ?_
      refine lv_icmp_ge (tgt := 44) hx hb dX11_checksum_18 (by decide) (fun c18 => ?_) (fun c18 => ?_)
      · replace hf := xif_pos c18 hf
        refine lv_iconst (v := 0) hx hb dX11_checksum_44 (by decide) ?_
        refine lv_istore_n (lv' := [(3, .int 0), (0, .ref (E.a 0)), (1, .long a1)]) hx hb dX11_checksum_45 rfl hl (by decide) rfl (fun ls hl => ?_)
        exact h46 xFU a1 0 σ _ _ _ hw (lv_sub hl [1, 2, 0] rfl) hf
      · replace hf := xif_neg c18 hf
        refine lv_ldc2 hx hb hown (hts (.constantLong RX11 392 (31)) (by decide +kernel)) dX11_checksum_21 ?_
        refine lv_lload_n hx hb dX11_checksum_24 rfl (lv_at hl 1 rfl) ?_
        refine lv_lmul hx hb dX11_checksum_25 ?_
        refine lv_aload_n hx hb dX11_checksum_26 rfl (lv_at hl 0 rfl) ?_
        refine x_getr hx hb hw (cX0 hE) (own := RX11) (ref := RX11) (C := RX11) (T := TX11) (N := 14) hts hiX11 hown rfl 0 (by decide) hk24 (fun _ h9 => h9) rfl dX11_checksum_27 ?_
        refine x_getr hx hb hw (cX2 hE) (own := RX11) (ref := RX10) (C := RX10) (T := TX10) (N := 4) hts hiX10 hown rfl 0 (by decide) hk107 (fun _ h9 => h9) rfl dX11_checksum_30 ?_
        refine lv_iload_n hx hb dX11_checksum_33 rfl (lv_at hl 2 rfl) ?_
        obtain ⟨hin, hf⟩ := xr_f hf
        refine x_iald hx hb hw (cX3 hE) hin dX11_checksum_34 ?_
        refine lv_topi (fun v2 ex => ?_)
        replace hf := hf v2 ex
        clear ex hin
        refine lv_i2l hx hb dX11_checksum_35 rfl ?_
        refine lv_ladd hx hb dX11_checksum_36 ?_
        refine lv_topl (fun v3 ex => ?_)
        replace hf := xl_f hf v3 ex
        clear ex
        refine lv_lstore_n (lv' := [(1, .long v3), (0, .ref (E.a 0)), (3, .int a3)]) hx hb dX11_checksum_37 rfl hl (by decide) rfl (fun ls hl => ?_)
        obtain ⟨v4, ex⟩ : ∃ y : Int32, y = (a3 + 1) := ⟨_, rfl⟩
        replace hf := xl_f hf v4 ex
        refine lv_iinc (v := v4) (lv' := [(3, .int v4), (1, .long v3), (0, .ref (E.a 0))]) hx hb dX11_checksum_38 hl (k := 2) rfl (by rw [ex]; rfl) (by decide) rfl (fun ls hl => ?_)
        clear ex
        refine lv_goto (tgt := 15) hx hb dX11_checksum_41 (by decide) ?_
        exact ih15 v3 v4 σ _ _ _ hw (lv_sub hl [2, 1, 0] rfl) hf
  refine lv_ldc2 hx hb hown (hts (.constantLong RX11 390 (527)) (by decide +kernel)) dX11_checksum_0 ?_
  refine lv_aload_n hx hb dX11_checksum_3 rfl (lv_at hl 0 rfl) ?_
  refine x_getr hx hb hw (cX0 hE) (own := RX11) (ref := RX11) (C := RX11) (T := TX11) (N := 14) hts hiX11 hown rfl 3 (by decide) hk41 (fun _ h9 => h9) rfl dX11_checksum_4 ?_
  refine x_geti hx hb hw (cX20 hE) (own := RX11) (ref := RX5) (C := RX5) (T := TX5) (N := 5) hts hiX5 hown rfl 0 (by decide) hk186 (fun _ h9 => h9) rfl dX11_checksum_7 ?_
  refine lv_i2l hx hb dX11_checksum_10 rfl ?_
  refine lv_ladd hx hb dX11_checksum_11 ?_
  refine lv_topl (fun v1 ex => ?_)
  replace hf := xl_f hf v1 ex
  clear ex
  refine lv_lstore_n (lv' := [(1, .long v1), (0, .ref (E.a 0))]) hx hb dX11_checksum_12 rfl hl (by decide) rfl (fun ls hl => ?_)
  refine lv_iconst (v := 0) hx hb dX11_checksum_13 (by decide) ?_
  refine lv_istore_n (lv' := [(3, .int 0), (1, .long v1), (0, .ref (E.a 0))]) hx hb dX11_checksum_14 rfl hl (by decide) rfl (fun ls hl => ?_)
  exact h15 xFU v1 0 σ _ _ _ hw (lv_sub hl [2, 1, 0] rfl) hf
