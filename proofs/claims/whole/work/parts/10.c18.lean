def fX12_back_c111 (k10 : (Int32 → Int32 → Int32 → Int32 → xSt → Option (Int32 × xSt))) (a5 : Int32) (a6 : Int32) (t0 : Int32) (σ : xSt) : Option (Int32 × xSt) := (xr σ 1 680 (653 + a6) fun v12 => (xl (t0 + v12) fun v13 => (xr σ 1 680 (625 + a6) fun v14 => (xr σ 1 680 (632 + a6) fun v15 => (xl (a5 + 1) fun v16 => k10 v13 v14 v15 v16 σ)))))
def fX12_back_c10 : Nat → Int32 → Int32 → Int32 → Int32 → xSt → Option (Int32 × xSt)
  | 0 => fun _ _ _ _ _ => none
  | n + 1 => fun a2 a3 a4 a5 σ => (if (σ 0 18) ≤ a5 then some (((a2 + a3) + a4), σ) else (xr σ 11 8 a5 fun v1 => (xr σ 1 680 (625 + v1) fun v2 => (xc2 (fX12_distance a3 v2 σ) fun r3 σ4 => (xr σ4 1 680 (632 + v1) fun v5 => (xc2 (fX12_distance a4 v5 σ4) fun r6 σ7 => (xl (a2 + (r3 + r6)) fun v8 => (xr σ7 1 680 (646 + v1) fun v9 => (if v8 ≤ v9 then (xr σ7 1 680 (639 + v1) fun v10 => (if v10 ≤ v8 then fX12_back_c111 (fX12_back_c10 n) a5 v1 v8 σ7 else (xr σ7 1 680 (639 + v1) fun v11 => fX12_back_c111 (fX12_back_c10 n) a5 v1 v11 σ7))) else some (2000000000, σ7))))))))))
theorem fX12_back_c10_s (n : Nat) (a2 : Int32) (a3 : Int32) (a4 : Int32) (a5 : Int32) (σ : xSt) : fX12_back_c10 (n + 1) a2 a3 a4 a5 σ = ((if (σ 0 18) ≤ a5 then some (((a2 + a3) + a4), σ) else (xr σ 11 8 a5 fun v1 => (xr σ 1 680 (625 + v1) fun v2 => (xc2 (fX12_distance a3 v2 σ) fun r3 σ4 => (xr σ4 1 680 (632 + v1) fun v5 => (xc2 (fX12_distance a4 v5 σ4) fun r6 σ7 => (xl (a2 + (r3 + r6)) fun v8 => (xr σ7 1 680 (646 + v1) fun v9 => (if v8 ≤ v9 then (xr σ7 1 680 (639 + v1) fun v10 => (if v10 ≤ v8 then fX12_back_c111 (fX12_back_c10 n) a5 v1 v8 σ7 else (xr σ7 1 680 (639 + v1) fun v11 => fX12_back_c111 (fX12_back_c10 n) a5 v1 v11 σ7))) else some (2000000000, σ7)))))))))) : Option (Int32 × xSt)) := rfl
def fX12_back (p0 : Int32) (σ : xSt) : Option (Int32 × xSt) := fX12_back_c10 xFU p0 0 0 0 σ
abbrev rmX12_back : Room := { frames := 1, cells := 0, slots := 0, locals := 21 }
set_option maxRecDepth 100000 in
set_option maxHeartbeats 4000000 in
theorem mX12_back {l : Launch} {E : xE} (hE : E.sh = shM) (p0 : Int32) (σ : xSt) (o1 : Int32) (o2 : xSt) (hf : fX12_back p0 σ = some (o1, o2)) : xMi l yX12_back wsX12_back rmX12_back E [.ref (E.a 0), .int p0] σ o1 o2 := by
  unfold fX12_back at hf
  refine xMi_of (cc := cX12_back) (maxL := 7) (ret := (some .int)) (by decide) rfl (Nat.le_of_ble_eq_true rfl) ?_
  intro p e s m args below meth c A ls ⟨hx, hb, hr, hml, hown, hts, hlk⟩ hA hG hw hl
  have hown : s.vm.findClass RX12 = some m.cls := hown
  have hl : lv_has ls 7 [(0, .ref (E.a 0)), (1, .int p0)] := hl
  have hk203 := hts (.fieldLink RX12 203 "OvenRoundModel" "many" "I") (by decide +kernel)
  have hiX12 : ∀ w ∈ wsX120, w ∈ wsX12_back := by decide +kernel
  have hk40 := hts (.fieldLink RX12 40 "OvenRoundModel" "row" "[I") (by decide +kernel)
  have hk9 := hts (.fieldLink RX12 9 "OvenRoundModel" "w" "[I") (by decide +kernel)
  have h10 : ∀ (n : Nat) (a2 : Int32) (a3 : Int32) (a4 : Int32) (a5 : Int32) (σ : xSt) (H : Heap) (locs : List Loc) (ls : Array Slot), xw E A s.heap s σ H locs → lv_has ls 7 [(0, .ref (E.a 0)), (2, .int a2), (3, .int a3), (4, .int a4), (5, .int a5)] → fX12_back_c10 n a2 a3 a4 a5 σ = some (o1, o2) → W p l e rmX12_back s m args below meth c H locs 0 0 (MQ below (xQi E A o1 o2) args s 0 0 A) (F0 m 10 ls []) := by
    intro n10
    induction n10 with
    | zero => intro a2 a3 a4 a5 σ H locs ls hw hl hf; exact nomatch hf
    | succ n10 ih10 =>
      have h111 : ∀ (a5 : Int32) (a6 : Int32) (t0 : Int32) (σ : xSt) (H : Heap) (locs : List Loc) (ls : Array Slot), xw E A s.heap s σ H locs → lv_has ls 7 [(0, .ref (E.a 0)), (5, .int a5), (6, .int a6)] → fX12_back_c111 (fX12_back_c10 n10) a5 a6 t0 σ = some (o1, o2) → W p l e rmX12_back s m args below meth c H locs 0 0 (MQ below (xQi E A o1 o2) args s 0 0 A) (F0 m 111 ls [.int t0]) := by
        intro a5 a6 t0 σ H locs ls hw hl hf
        unfold fX12_back_c111 at hf
        refine lv_istore_n (lv' := [(2, .int t0), (0, .ref (E.a 0)), (5, .int a5), (6, .int a6)]) hx hb dX12_back_111 rfl hl (by decide) rfl (fun ls hl => ?_)
        refine lv_iload_n hx hb dX12_back_112 rfl (lv_at hl 0 rfl) ?_
        refine lv_aload_n hx hb dX12_back_113 rfl (lv_at hl 1 rfl) ?_
        refine x_getr hx hb hw (cM0 hE) (own := RX12) (ref := RX12) (C := RX12) (T := TX12) (N := 20) hts hiX12 hown rfl 1 (by decide) hk9 (fun _ h9 => h9) rfl dX12_back_114 ?_
        refine lv_sipush (v := 653) hx hb dX12_back_117 (by decide) ?_
        refine lv_iload hx hb dX12_back_120 (lv_at hl 3 rfl) ?_
        refine lv_iadd hx hb dX12_back_122 ?_
        obtain ⟨hin, hf⟩ := xr_f hf
        refine x_iald hx hb hw (cM1 hE) hin dX12_back_123 ?_
        refine lv_topi (fun v12 ex => ?_)
        replace hf := hf v12 ex
        clear ex hin
        refine lv_iadd hx hb dX12_back_124 ?_
        refine lv_topi (fun v13 ex => ?_)
        replace hf := xl_f hf v13 ex
        clear ex
        refine lv_istore_n (lv' := [(2, .int v13), (0, .ref (E.a 0)), (5, .int a5), (6, .int a6)]) hx hb dX12_back_125 rfl hl (by decide) rfl (fun ls hl => ?_)
        refine lv_aload_n hx hb dX12_back_126 rfl (lv_at hl 1 rfl) ?_
        refine x_getr hx hb hw (cM0 hE) (own := RX12) (ref := RX12) (C := RX12) (T := TX12) (N := 20) hts hiX12 hown rfl 1 (by decide) hk9 (fun _ h9 => h9) rfl dX12_back_127 ?_
        refine lv_sipush (v := 625) hx hb dX12_back_130 (by decide) ?_
        refine lv_iload hx hb dX12_back_133 (lv_at hl 3 rfl) ?_
        refine lv_iadd hx hb dX12_back_135 ?_
        obtain ⟨hin, hf⟩ := xr_f hf
        refine x_iald hx hb hw (cM1 hE) hin dX12_back_136 ?_
        refine lv_topi (fun v14 ex => ?_)
        replace hf := hf v14 ex
        clear ex hin
        refine lv_istore_n (lv' := [(3, .int v14), (2, .int v13), (0, .ref (E.a 0)), (5, .int a5), (6, .int a6)]) hx hb dX12_back_137 rfl hl (by decide) rfl (fun ls hl => ?_)
        refine lv_aload_n hx hb dX12_back_138 rfl (lv_at hl 2 rfl) ?_
        refine x_getr hx hb hw (cM0 hE) (own := RX12) (ref := RX12) (C := RX12) (T := TX12) (N := 20) hts hiX12 hown rfl 1 (by decide) hk9 (fun _ h9 => h9) rfl dX12_back_139 ?_
        refine lv_sipush (v := 632) hx hb dX12_back_142 (by decide) ?_
        refine lv_iload hx hb dX12_back_145 (lv_at hl 4 rfl) ?_
        refine lv_iadd hx hb dX12_back_147 ?_
        obtain ⟨hin, hf⟩ := xr_f hf
        refine x_iald hx hb hw (cM1 hE) hin dX12_back_148 ?_
        refine lv_topi (fun v15 ex => ?_)
        replace hf := hf v15 ex
        clear ex hin
        refine lv_istore (lv' := [(4, .int v15), (3, .int v14), (2, .int v13), (0, .ref (E.a 0)), (5, .int a5), (6, .int a6)]) hx hb dX12_back_149 hl (by decide) rfl (fun ls hl => ?_)
        obtain ⟨v16, ex⟩ : ∃ y : Int32, y = (a5 + 1) := ⟨_, rfl⟩
        replace hf := xl_f hf v16 ex
        refine lv_iinc (v := v16) (lv' := [(5, .int v16), (4, .int v15), (3, .int v14), (2, .int v13), (0, .ref (E.a 0)), (6, .int a6)]) hx hb dX12_back_151 hl (k := 4) rfl (by rw [ex]; rfl) (by decide) rfl (fun ls hl => ?_)
        clear ex
        refine lv_goto (tgt := 10) hx hb dX12_back_154 (by decide) ?_
        exact ih10 v13 v14 v15 v16 σ _ _ _ hw (lv_sub hl [4, 3, 2, 1, 0] rfl) hf
      intro a2 a3 a4 a5 σ H locs ls hw hl hf
      rw [fX12_back_c10_s] at hf
      refine lv_iload hx hb dX12_back_10 (lv_at hl 4 rfl) ?_
      refine lv_aload_n hx hb dX12_back_12 rfl (lv_at hl 0 rfl) ?_
      refine x_geti hx hb hw (cM0 hE) (own := RX12) (ref := RX12) (C := RX12) (T := TX12) (N := 20) hts hiX12 hown rfl 18 (by decide) hk203 (fun _ h9 => h9) rfl dX12_back_13 ?_
      refine lv_icmp_ge (tgt := 157) hx hb dX12_back_16 (by decide) (fun c16 => ?_) (fun c16 => ?_)
      · replace hf := xif_pos c16 hf
        refine lv_iload_n hx hb dX12_back_157 rfl (lv_at hl 1 rfl) ?_
        refine lv_iload_n hx hb dX12_back_158 rfl (lv_at hl 2 rfl) ?_
        refine lv_iadd hx hb dX12_back_159 ?_
        refine lv_iload hx hb dX12_back_160 (lv_at hl 3 rfl) ?_
        refine lv_iadd hx hb dX12_back_162 ?_
        exact x_iret hx hb hr hlk hw hf dX12_back_163
      · replace hf := xif_neg c16 hf
        refine lv_aload_n hx hb dX12_back_19 rfl (lv_at hl 0 rfl) ?_
        refine x_getr hx hb hw (cM0 hE) (own := RX12) (ref := RX12) (C := RX12) (T := TX12) (N := 20) hts hiX12 hown rfl 16 (by decide) hk40 (fun _ h9 => h9) rfl dX12_back_20 ?_
        refine lv_iload hx hb dX12_back_23 (lv_at hl 4 rfl) ?_
        obtain ⟨hin, hf⟩ := xr_f hf
        refine x_iald hx hb hw (cM11 hE) hin dX12_back_25 ?_
        refine lv_topi (fun v1 ex => ?_)
        replace hf := hf v1 ex
        clear ex hin
        refine lv_istore (lv' := [(6, .int v1), (0, .ref (E.a 0)), (2, .int a2), (3, .int a3), (4, .int a4), (5, .int a5)]) hx hb dX12_back_26 hl (by decide) rfl (fun ls hl => ?_)
        refine lv_iload_n hx hb dX12_back_28 rfl (lv_at hl 2 rfl) ?_
        refine lv_iload_n hx hb dX12_back_29 rfl (lv_at hl 3 rfl) ?_
        refine lv_aload_n hx hb dX12_back_30 rfl (lv_at hl 1 rfl) ?_
        refine x_getr hx hb hw (cM0 hE) (own := RX12) (ref := RX12) (C := RX12) (T := TX12) (N := 20) hts hiX12 hown rfl 1 (by decide) hk9 (fun _ h9 => h9) rfl dX12_back_31 ?_
        refine lv_sipush (v := 625) hx hb dX12_back_34 (by decide) ?_
        refine lv_iload hx hb dX12_back_37 (lv_at hl 0 rfl) ?_
        refine lv_iadd hx hb dX12_back_39 ?_
        obtain ⟨hin, hf⟩ := xr_f hf
        refine x_iald hx hb hw (cM1 hE) hin dX12_back_40 ?_
        refine lv_topi (fun v2 ex => ?_)
        replace hf := hf v2 ex
        clear ex hin
        obtain ⟨r3, σ4, hcl, hf⟩ := xc2_f hf
        refine x_calli (va_runS (As := [.int a3, .int v2]) (rest := [.int a2]) ⟨hx, hb, hml, hown, hts⟩ (mX12_distance hE a3 v2 σ r3 σ4 hcl H.size) (va_cwS 2 hts gX12_back_X12_distance rfl rfl rfl (by decide +kernel) ⟨Nat.le_of_ble_eq_true rfl, Nat.le_of_ble_eq_true rfl⟩) (x_preS _ hw hA hG) rfl rfl hl.1 rfl (lv_room (Nat.le_of_ble_eq_true rfl)) dX12_back_41 ⟨Nat.le_of_ble_eq_true rfl, Nat.le_of_ble_eq_true rfl⟩) hw hA (fun H locs hw => ?_)
        clear hcl
        refine lv_iload hx hb dX12_back_44 (lv_at hl 4 rfl) ?_
        refine lv_aload_n hx hb dX12_back_46 rfl (lv_at hl 1 rfl) ?_
        refine x_getr hx hb hw (cM0 hE) (own := RX12) (ref := RX12) (C := RX12) (T := TX12) (N := 20) hts hiX12 hown rfl 1 (by decide) hk9 (fun _ h9 => h9) rfl dX12_back_47 ?_
        refine lv_sipush (v := 632) hx hb dX12_back_50 (by decide) ?_
        refine lv_iload hx hb dX12_back_53 (lv_at hl 0 rfl) ?_
        refine lv_iadd hx hb dX12_back_55 ?_
        obtain ⟨hin, hf⟩ := xr_f hf
        refine x_iald hx hb hw (cM1 hE) hin dX12_back_56 ?_
        refine lv_topi (fun v5 ex => ?_)
        replace hf := hf v5 ex
        clear ex hin
        obtain ⟨r6, σ7, hcl, hf⟩ := xc2_f hf
        refine x_calli (va_runS (As := [.int a4, .int v5]) (rest := [.int r3, .int a2]) ⟨hx, hb, hml, hown, hts⟩ (mX12_distance hE a4 v5 σ4 r6 σ7 hcl H.size) (va_cwS 2 hts gX12_back_X12_distance rfl rfl rfl (by decide +kernel) ⟨Nat.le_of_ble_eq_true rfl, Nat.le_of_ble_eq_true rfl⟩) (x_preS _ hw hA hG) rfl rfl hl.1 rfl (lv_room (Nat.le_of_ble_eq_true rfl)) dX12_back_57 ⟨Nat.le_of_ble_eq_true rfl, Nat.le_of_ble_eq_true rfl⟩) hw hA (fun H locs hw => ?_)
        clear hcl
        refine lv_iadd hx hb dX12_back_60 ?_
        refine lv_iadd hx hb dX12_back_61 ?_
        refine lv_topi (fun v8 ex => ?_)
        replace hf := xl_f hf v8 ex
        clear ex
        refine lv_istore_n (lv' := [(2, .int v8), (6, .int v1), (0, .ref (E.a 0)), (3, .int a3), (4, .int a4), (5, .int a5)]) hx hb dX12_back_62 rfl hl (by decide) rfl (fun ls hl => ?_)
        refine lv_iload_n hx hb dX12_back_63 rfl (lv_at hl 0 rfl) ?_
        refine lv_aload_n hx hb dX12_back_64 rfl (lv_at hl 2 rfl) ?_
        refine x_getr hx hb hw (cM0 hE) (own := RX12) (ref := RX12) (C := RX12) (T := TX12) (N := 20) hts hiX12 hown rfl 1 (by decide) hk9 (fun _ h9 => h9) rfl dX12_back_65 ?_
        refine lv_sipush (v := 646) hx hb dX12_back_68 (by decide) ?_
        refine lv_iload hx hb dX12_back_71 (lv_at hl 1 rfl) ?_
        refine lv_iadd hx hb dX12_back_73 ?_
        obtain ⟨hin, hf⟩ := xr_f hf
        refine x_iald hx hb hw (cM1 hE) hin dX12_back_74 ?_
        refine lv_topi (fun v9 ex => ?_)
        replace hf := hf v9 ex
        clear ex hin
        refine lv_icmp_le (tgt := 81) hx hb dX12_back_75 (by decide) (fun c75 => ?_) (fun c75 => ?_)
        · replace hf := xif_pos c75 hf
          refine lv_iload_n hx hb dX12_back_81 rfl (lv_at hl 0 rfl) ?_
          refine lv_aload_n hx hb dX12_back_82 rfl (lv_at hl 2 rfl) ?_
          refine x_getr hx hb hw (cM0 hE) (own := RX12) (ref := RX12) (C := RX12) (T := TX12) (N := 20) hts hiX12 hown rfl 1 (by decide) hk9 (fun _ h9 => h9) rfl dX12_back_83 ?_
          refine lv_sipush (v := 639) hx hb dX12_back_86 (by decide) ?_
          refine lv_iload hx hb dX12_back_89 (lv_at hl 1 rfl) ?_
          refine lv_iadd hx hb dX12_back_91 ?_
          obtain ⟨hin, hf⟩ := xr_f hf
          refine x_iald hx hb hw (cM1 hE) hin dX12_back_92 ?_
          refine lv_topi (fun v10 ex => ?_)
          replace hf := hf v10 ex
          clear ex hin
          refine lv_icmp_ge (tgt := 110) hx hb dX12_back_93 (by decide) (fun c93 => ?_) (fun c93 => ?_)
          · replace hf := xif_pos c93 hf
            refine lv_iload_n hx hb dX12_back_110 rfl (lv_at hl 0 rfl) ?_
            exact h111 a5 v1 v8 σ7 _ _ _ hw (lv_sub hl [2, 5, 1] rfl) hf
          · replace hf := xif_neg c93 hf
            refine lv_aload_n hx hb dX12_back_96 rfl (lv_at hl 2 rfl) ?_
            refine x_getr hx hb hw (cM0 hE) (own := RX12) (ref := RX12) (C := RX12) (T := TX12) (N := 20) hts hiX12 hown rfl 1 (by decide) hk9 (fun _ h9 => h9) rfl dX12_back_97 ?_
            refine lv_sipush (v := 639) hx hb dX12_back_100 (by decide) ?_
            refine lv_iload hx hb dX12_back_103 (lv_at hl 1 rfl) ?_
            refine lv_iadd hx hb dX12_back_105 ?_
            obtain ⟨hin, hf⟩ := xr_f hf
            refine x_iald hx hb hw (cM1 hE) hin dX12_back_106 ?_
            refine lv_topi (fun v11 ex => ?_)
            replace hf := hf v11 ex
            clear ex hin
            refine lv_goto (tgt := 111) hx hb dX12_back_107 (by decide) ?_
            exact h111 a5 v1 v11 σ7 _ _ _ hw (lv_sub hl [2, 5, 1] rfl) hf
        · replace hf := xif_neg c75 hf
          refine lv_ldc hx hb hown (hts (.constant RX12 125 (2000000000)) (by decide +kernel)) dX12_back_78 ?_
          exact x_iret hx hb hr hlk hw hf dX12_back_80
  refine lv_iload_n hx hb dX12_back_0 rfl (lv_at hl 1 rfl) ?_
  refine lv_istore_n (lv' := [(2, .int p0), (0, .ref (E.a 0)), (1, .int p0)]) hx hb dX12_back_1 rfl hl (by decide) rfl (fun ls hl => ?_)
  refine lv_iconst (v := 0) hx hb dX12_back_2 (by decide) ?_
  refine lv_istore_n (lv' := [(3, .int 0), (2, .int p0), (0, .ref (E.a 0)), (1, .int p0)]) hx hb dX12_back_3 rfl hl (by decide) rfl (fun ls hl => ?_)
  refine lv_iconst (v := 0) hx hb dX12_back_4 (by decide) ?_
  refine lv_istore (lv' := [(4, .int 0), (3, .int 0), (2, .int p0), (0, .ref (E.a 0)), (1, .int p0)]) hx hb dX12_back_5 hl (by decide) rfl (fun ls hl => ?_)
  refine lv_iconst (v := 0) hx hb dX12_back_7 (by decide) ?_
  refine lv_istore (lv' := [(5, .int 0), (4, .int 0), (3, .int 0), (2, .int p0), (0, .ref (E.a 0)), (1, .int p0)]) hx hb dX12_back_8 hl (by decide) rfl (fun ls hl => ?_)
  exact h10 xFU p0 0 0 0 σ _ _ _ hw (lv_sub hl [4, 3, 2, 1, 0] rfl) hf

def fX12_keepsRow_c7 : Nat → Int32 → xSt → Option xSt
  | 0 => fun _ _ => none
  | n + 1 => fun a2 σ => (if (σ 0 18) ≤ a2 then some σ else (xr σ 11 8 a2 fun v2 => (xs σ 12 8 a2 v2 fun σ3 => (xl (a2 + 1) fun v4 => fX12_keepsRow_c7 n v4 σ3))))
theorem fX12_keepsRow_c7_s (n : Nat) (a2 : Int32) (σ : xSt) : fX12_keepsRow_c7 (n + 1) a2 σ = ((if (σ 0 18) ≤ a2 then some σ else (xr σ 11 8 a2 fun v2 => (xs σ 12 8 a2 v2 fun σ3 => (xl (a2 + 1) fun v4 => fX12_keepsRow_c7 n v4 σ3)))) : Option xSt) := rfl
def fX12_keepsRow (p0 : Int32) (σ : xSt) : Option xSt := (xp σ 0 19 p0 fun σ1 => fX12_keepsRow_c7 xFU 0 σ1)
abbrev rmX12_keepsRow : Room := { frames := 0, cells := 0, slots := 0, locals := 0 }
set_option maxRecDepth 100000 in
set_option maxHeartbeats 4000000 in
theorem mX12_keepsRow {l : Launch} {E : xE} (hE : E.sh = shM) (p0 : Int32) (σ : xSt) (o1 : xSt) (hf : fX12_keepsRow p0 σ = some o1) : xMv l yX12_keepsRow wsX12_keepsRow rmX12_keepsRow E [.ref (E.a 0), .int p0] σ o1 := by
  unfold fX12_keepsRow at hf
  refine xMv_of (cc := cX12_keepsRow) (maxL := 3) (ret := none) (by decide) rfl (Nat.le_of_ble_eq_true rfl) ?_
  intro p e s m args below meth c A ls ⟨hx, hb, hr, hml, hown, hts, hlk⟩ hA hG hw hl
  have hown : s.vm.findClass RX12 = some m.cls := hown
  have hl : lv_has ls 3 [(0, .ref (E.a 0)), (1, .int p0)] := hl
  have hk212 := hts (.fieldLink RX12 212 "OvenRoundModel" "bestEnd" "I") (by decide +kernel)
  have hiX12 : ∀ w ∈ wsX120, w ∈ wsX12_keepsRow := by decide +kernel
  have hk203 := hts (.fieldLink RX12 203 "OvenRoundModel" "many" "I") (by decide +kernel)
  have hk43 := hts (.fieldLink RX12 43 "OvenRoundModel" "bestRow" "[I") (by decide +kernel)
  have hk40 := hts (.fieldLink RX12 40 "OvenRoundModel" "row" "[I") (by decide +kernel)
  have h7 : ∀ (n : Nat) (a2 : Int32) (σ : xSt) (H : Heap) (locs : List Loc) (ls : Array Slot), xw E A s.heap s σ H locs → lv_has ls 3 [(0, .ref (E.a 0)), (2, .int a2)] → fX12_keepsRow_c7 n a2 σ = some o1 → W p l e rmX12_keepsRow s m args below meth c H locs 0 0 (MQ below (xQv E A o1) args s 0 0 A) (F0 m 7 ls []) := by
    intro n7
    induction n7 with
    | zero => intro a2 σ H locs ls hw hl hf; exact nomatch hf
    | succ n7 ih7 =>
      intro a2 σ H locs ls hw hl hf
      rw [fX12_keepsRow_c7_s] at hf
      refine lv_iload_n hx hb dX12_keepsRow_7 rfl (lv_at hl 1 rfl) ?_
      refine lv_aload_n hx hb dX12_keepsRow_8 rfl (lv_at hl 0 rfl) ?_
      refine x_geti hx hb hw (cM0 hE) (own := RX12) (ref := RX12) (C := RX12) (T := TX12) (N := 20) hts hiX12 hown rfl 18 (by decide) hk203 (fun _ h9 => h9) rfl dX12_keepsRow_9 ?_
      refine lv_icmp_ge (tgt := 33) hx hb dX12_keepsRow_12 (by decide) (fun c12 => ?_) (fun c12 => ?_)
      · replace hf := xif_pos c12 hf
        exact x_vret hx hb hr hlk hw hf dX12_keepsRow_33
      · replace hf := xif_neg c12 hf
        refine lv_aload_n hx hb dX12_keepsRow_15 rfl (lv_at hl 0 rfl) ?_
        refine x_getr hx hb hw (cM0 hE) (own := RX12) (ref := RX12) (C := RX12) (T := TX12) (N := 20) hts hiX12 hown rfl 17 (by decide) hk43 (fun _ h9 => h9) rfl dX12_keepsRow_16 ?_
        refine lv_iload_n hx hb dX12_keepsRow_19 rfl (lv_at hl 1 rfl) ?_
        refine lv_aload_n hx hb dX12_keepsRow_20 rfl (lv_at hl 0 rfl) ?_
        refine x_getr hx hb hw (cM0 hE) (own := RX12) (ref := RX12) (C := RX12) (T := TX12) (N := 20) hts hiX12 hown rfl 16 (by decide) hk40 (fun _ h9 => h9) rfl dX12_keepsRow_21 ?_
        refine lv_iload_n hx hb dX12_keepsRow_24 rfl (lv_at hl 1 rfl) ?_
        obtain ⟨hin, hf⟩ := xr_f hf
        refine x_iald hx hb hw (cM11 hE) hin dX12_keepsRow_25 ?_
        refine lv_topi (fun v2 ex => ?_)
        replace hf := hf v2 ex
        clear ex hin
        obtain ⟨hin, hf⟩ := xs_f hf
        refine x_iast hx hb hw (cM12 hE) hin dX12_keepsRow_26 (fun σ3 H locs ex hw => ?_)
        replace hf := hf σ3 ex
        clear ex hin
        obtain ⟨v4, ex⟩ : ∃ y : Int32, y = (a2 + 1) := ⟨_, rfl⟩
        replace hf := xl_f hf v4 ex
        refine lv_iinc (v := v4) (lv' := [(2, .int v4), (0, .ref (E.a 0))]) hx hb dX12_keepsRow_27 hl (k := 1) rfl (by rw [ex]; rfl) (by decide) rfl (fun ls hl => ?_)
        clear ex
        refine lv_goto (tgt := 7) hx hb dX12_keepsRow_30 (by decide) ?_
        exact ih7 v4 σ3 _ _ _ hw (lv_sub hl [1, 0] rfl) hf
  refine lv_aload_n hx hb dX12_keepsRow_0 rfl (lv_at hl 0 rfl) ?_
  refine lv_iload_n hx hb dX12_keepsRow_1 rfl (lv_at hl 1 rfl) ?_
  refine x_puti hx hb hw (cM0 hE) (own := RX12) (ref := RX12) (C := RX12) (T := TX12) (N := 20) hts hiX12 tyX12 tyX12_ok nmX12 hown rfl 19 (by decide) hk212 (fun _ h9 => h9) rfl (by decide +kernel) rfl dX12_keepsRow_2 (fun σ1 H locs ex hw => ?_)
  replace hf := xp_f hf σ1 ex
  clear ex
  refine lv_iconst (v := 0) hx hb dX12_keepsRow_5 (by decide) ?_
  refine lv_istore_n (lv' := [(2, .int 0), (0, .ref (E.a 0)), (1, .int p0)]) hx hb dX12_keepsRow_6 rfl hl (by decide) rfl (fun ls hl => ?_)
  exact h7 xFU 0 σ1 _ _ _ hw (lv_sub hl [1, 0] rfl) hf

def fX12_drives_c65 (k42 : (Int32 → Int32 → xSt → Option (Int32 × xSt))) (a1 : Int32) (σ : xSt) : Option (Int32 × xSt) := (xc2 (fX12_nextRow σ) fun r10 σ11 => k42 a1 r10 σ11)
def fX12_drives_c42 : Nat → Int32 → Int32 → xSt → Option (Int32 × xSt)
  | 0 => fun _ _ _ => none
  | n + 1 => fun a1 a2 σ => (if a2 = 0 then (if 2000000000 ≤ (σ 0 19) then some (0, σ) else some (1, σ)) else (xc2 (fX12_back a1 σ) fun r6 σ7 => (if (σ7 0 19) ≤ r6 then fX12_drives_c65 (fX12_drives_c42 n) a1 σ7 else (xc (fX12_keepsRow r6 σ7) fun σ9 => fX12_drives_c65 (fX12_drives_c42 n) a1 σ9))))
theorem fX12_drives_c42_s (n : Nat) (a1 : Int32) (a2 : Int32) (σ : xSt) : fX12_drives_c42 (n + 1) a1 a2 σ = ((if a2 = 0 then (if 2000000000 ≤ (σ 0 19) then some (0, σ) else some (1, σ)) else (xc2 (fX12_back a1 σ) fun r6 σ7 => (if (σ7 0 19) ≤ r6 then fX12_drives_c65 (fX12_drives_c42 n) a1 σ7 else (xc (fX12_keepsRow r6 σ7) fun σ9 => fX12_drives_c65 (fX12_drives_c42 n) a1 σ9)))) : Option (Int32 × xSt)) := rfl
def fX12_drives_c13 : Nat → Int32 → Int32 → xSt → Option (Int32 × xSt)
  | 0 => fun _ _ _ => none
  | n + 1 => fun a1 a2 σ => (if (σ 0 18) ≤ a2 then (xp σ 0 19 2000000000 fun σ3 => fX12_drives_c42 xFU a1 1 σ3) else (xs σ 11 8 a2 a2 fun σ4 => (xl (a2 + 1) fun v5 => fX12_drives_c13 n a1 v5 σ4)))
theorem fX12_drives_c13_s (n : Nat) (a1 : Int32) (a2 : Int32) (σ : xSt) : fX12_drives_c13 (n + 1) a1 a2 σ = ((if (σ 0 18) ≤ a2 then (xp σ 0 19 2000000000 fun σ3 => fX12_drives_c42 xFU a1 1 σ3) else (xs σ 11 8 a2 a2 fun σ4 => (xl (a2 + 1) fun v5 => fX12_drives_c13 n a1 v5 σ4))) : Option (Int32 × xSt)) := rfl
def fX12_drives (p0 : Int32) (σ : xSt) : Option (Int32 × xSt) := (xr σ 1 680 7 fun v1 => (xp σ 0 18 v1 fun σ2 => fX12_drives_c13 xFU p0 0 σ2))
abbrev rmX12_drives : Room := { frames := 2, cells := 0, slots := 0, locals := 47 }
set_option maxRecDepth 100000 in
set_option maxHeartbeats 4000000 in
theorem mX12_drives {l : Launch} {E : xE} (hE : E.sh = shM) (p0 : Int32) (σ : xSt) (o1 : Int32) (o2 : xSt) (hf : fX12_drives p0 σ = some (o1, o2)) : xMi l yX12_drives wsX12_drives rmX12_drives E [.ref (E.a 0), .int p0] σ o1 o2 := by
  unfold fX12_drives at hf
  refine xMi_of (cc := cX12_drives) (maxL := 4) (ret := (some .boolean)) (by decide) rfl (Nat.le_of_ble_eq_true rfl) ?_
  intro p e s m args below meth c A ls ⟨hx, hb, hr, hml, hown, hts, hlk⟩ hA hG hw hl
  have hown : s.vm.findClass RX12 = some m.cls := hown
  have hl : lv_has ls 4 [(0, .ref (E.a 0)), (1, .int p0)] := hl
  have hk9 := hts (.fieldLink RX12 9 "OvenRoundModel" "w" "[I") (by decide +kernel)
  have hiX12 : ∀ w ∈ wsX120, w ∈ wsX12_drives := by decide +kernel
  have hk203 := hts (.fieldLink RX12 203 "OvenRoundModel" "many" "I") (by decide +kernel)
  have hk212 := hts (.fieldLink RX12 212 "OvenRoundModel" "bestEnd" "I") (by decide +kernel)
  have hk40 := hts (.fieldLink RX12 40 "OvenRoundModel" "row" "[I") (by decide +kernel)
  have h42 : ∀ (n : Nat) (a1 : Int32) (a2 : Int32) (σ : xSt) (H : Heap) (locs : List Loc) (ls : Array Slot), xw E A s.heap s σ H locs → lv_has ls 4 [(0, .ref (E.a 0)), (1, .int a1), (2, .int a2)] → fX12_drives_c42 n a1 a2 σ = some (o1, o2) → W p l e rmX12_drives s m args below meth c H locs 0 0 (MQ below (xQi E A o1 o2) args s 0 0 A) (F0 m 42 ls []) := by
    intro n42
    induction n42 with
    | zero => intro a1 a2 σ H locs ls hw hl hf; exact nomatch hf
    | succ n42 ih42 =>
      have h65 : ∀ (a1 : Int32) (σ : xSt) (H : Heap) (locs : List Loc) (ls : Array Slot), xw E A s.heap s σ H locs → lv_has ls 4 [(0, .ref (E.a 0)), (1, .int a1)] → fX12_drives_c65 (fX12_drives_c42 n42) a1 σ = some (o1, o2) → W p l e rmX12_drives s m args below meth c H locs 0 0 (MQ below (xQi E A o1 o2) args s 0 0 A) (F0 m 65 ls []) := by
        intro a1 σ H locs ls hw hl hf
        unfold fX12_drives_c65 at hf
        refine lv_aload_n hx hb dX12_drives_65 rfl (lv_at hl 0 rfl) ?_
        obtain ⟨r10, σ11, hcl, hf⟩ := xc2_f hf
        refine x_calli (va_runV (As := []) (rest := []) ⟨hx, hb, hml, hown, hts⟩ (mX12_nextRow hE σ r10 σ11 hcl H.size) (cwV 0 hts gX12_drives_X12_nextRow rfl rfl rfl (by decide +kernel) ⟨Nat.le_of_ble_eq_true rfl, Nat.le_of_ble_eq_true rfl⟩) (x_preV _ hw hA hG (cM0 hE) rfl) rfl rfl hl.1 rfl (lv_room (Nat.le_of_ble_eq_true rfl)) dX12_drives_66 ⟨Nat.le_of_ble_eq_true rfl, Nat.le_of_ble_eq_true rfl⟩) hw hA (fun H locs hw => ?_)
        clear hcl
        refine lv_istore_n (lv' := [(2, .int r10), (0, .ref (E.a 0)), (1, .int a1)]) hx hb dX12_drives_69 rfl hl (by decide) rfl (fun ls hl => ?_)
        refine lv_goto (tgt := 42) hx hb dX12_drives_70 (by decide) ?_
        exact ih42 a1 r10 σ11 _ _ _ hw (lv_sub hl [1, 2, 0] rfl) hf
      intro a1 a2 σ H locs ls hw hl hf
      rw [fX12_drives_c42_s] at hf
      refine lv_iload_n hx hb dX12_drives_42 rfl (lv_at hl 2 rfl) ?_
      refine lv_if_eq (tgt := 73) hx hb dX12_drives_43 (by decide) (fun c43 => ?_) (fun c43 => ?_)
      · replace hf := xif_pos c43 hf
        refine lv_aload_n hx hb dX12_drives_73 rfl (lv_at hl 0 rfl) ?_
        refine x_geti hx hb hw (cM0 hE) (own := RX12) (ref := RX12) (C := RX12) (T := TX12) (N := 20) hts hiX12 hown rfl 19 (by decide) hk212 (fun _ h9 => h9) rfl dX12_drives_74 ?_
        refine lv_ldc hx hb hown (hts (.constant RX12 125 (2000000000)) (by decide +kernel)) dX12_drives_77 ?_
        refine lv_icmp_ge (tgt := 86) hx hb dX12_drives_79 (by decide) (fun c79 => ?_) (fun c79 => ?_)
        · replace hf := xif_pos c79 hf
          refine lv_iconst (v := 0) hx hb dX12_drives_86 (by decide) ?_
          exact x_zretc hx hb hr hlk hw (by decide) hf dX12_drives_87
        · replace hf := xif_neg c79 hf
          refine lv_iconst (v := 1) hx hb dX12_drives_82 (by decide) ?_
          refine lv_goto (tgt := 87) hx hb dX12_drives_83 (by decide) ?_
          exact x_zretc hx hb hr hlk hw (by decide) hf dX12_drives_87
      · replace hf := xif_neg c43 hf
        refine lv_aload_n hx hb dX12_drives_46 rfl (lv_at hl 0 rfl) ?_
        refine lv_iload_n hx hb dX12_drives_47 rfl (lv_at hl 1 rfl) ?_
        obtain ⟨r6, σ7, hcl, hf⟩ := xc2_f hf
        refine x_calli (va_runV (As := [.int a1]) (rest := []) ⟨hx, hb, hml, hown, hts⟩ (mX12_back hE a1 σ r6 σ7 hcl H.size) (cwV 1 hts gX12_drives_X12_back rfl rfl rfl (by decide +kernel) ⟨Nat.le_of_ble_eq_true rfl, Nat.le_of_ble_eq_true rfl⟩) (x_preV _ hw hA hG (cM0 hE) rfl) rfl rfl hl.1 rfl (lv_room (Nat.le_of_ble_eq_true rfl)) dX12_drives_48 ⟨Nat.le_of_ble_eq_true rfl, Nat.le_of_ble_eq_true rfl⟩) hw hA (fun H locs hw => ?_)
        clear hcl
        refine lv_istore_n (lv' := [(3, .int r6), (0, .ref (E.a 0)), (1, .int a1), (2, .int a2)]) hx hb dX12_drives_51 rfl hl (by decide) rfl (fun ls hl => ?_)
        refine lv_iload_n hx hb dX12_drives_52 rfl (lv_at hl 0 rfl) ?_
        refine lv_aload_n hx hb dX12_drives_53 rfl (lv_at hl 1 rfl) ?_
        refine x_geti hx hb hw (cM0 hE) (own := RX12) (ref := RX12) (C := RX12) (T := TX12) (N := 20) hts hiX12 hown rfl 19 (by decide) hk212 (fun _ h9 => h9) rfl dX12_drives_54 ?_
        refine lv_icmp_ge (tgt := 65) hx hb dX12_drives_57 (by decide) (fun c57 => ?_) (fun c57 => ?_)
        · replace hf := xif_pos c57 hf
          exact h65 a1 σ7 _ _ _ hw (lv_sub hl [1, 2] rfl) hf
        · replace hf := xif_neg c57 hf
          refine lv_aload_n hx hb dX12_drives_60 rfl (lv_at hl 1 rfl) ?_
          refine lv_iload_n hx hb dX12_drives_61 rfl (lv_at hl 0 rfl) ?_
          obtain ⟨σ9, hcl, hf⟩ := xc_e hf
          refine x_callv (va_runV (As := [.int r6]) (rest := []) ⟨hx, hb, hml, hown, hts⟩ (mX12_keepsRow hE r6 σ7 σ9 hcl H.size) (cwV 1 hts gX12_drives_X12_keepsRow rfl rfl rfl (by decide +kernel) ⟨Nat.le_of_ble_eq_true rfl, Nat.le_of_ble_eq_true rfl⟩) (x_preV _ hw hA hG (cM0 hE) rfl) rfl rfl hl.1 rfl (lv_room (Nat.le_of_ble_eq_true rfl)) dX12_drives_62 ⟨Nat.le_of_ble_eq_true rfl, Nat.le_of_ble_eq_true rfl⟩) hw hA (fun H locs hw => ?_)
          clear hcl
          exact h65 a1 σ9 _ _ _ hw (lv_sub hl [1, 2] rfl) hf
  have h13 : ∀ (n : Nat) (a1 : Int32) (a2 : Int32) (σ : xSt) (H : Heap) (locs : List Loc) (ls : Array Slot), xw E A s.heap s σ H locs → lv_has ls 4 [(0, .ref (E.a 0)), (1, .int a1), (2, .int a2)] → fX12_drives_c13 n a1 a2 σ = some (o1, o2) → W p l e rmX12_drives s m args below meth c H locs 0 0 (MQ below (xQi E A o1 o2) args s 0 0 A) (F0 m 13 ls []) := by
    intro n13
    induction n13 with
    | zero => intro a1 a2 σ H locs ls hw hl hf; exact nomatch hf
    | succ n13 ih13 =>
      intro a1 a2 σ H locs ls hw hl hf
      rw [fX12_drives_c13_s] at hf
      refine lv_iload_n hx hb dX12_drives_13 rfl (lv_at hl 2 rfl) ?_
      refine lv_aload_n hx hb dX12_drives_14 rfl (lv_at hl 0 rfl) ?_
      refine x_geti hx hb hw (cM0 hE) (own := RX12) (ref := RX12) (C := RX12) (T := TX12) (N := 20) hts hiX12 hown rfl 18 (by decide) hk203 (fun _ h9 => h9) rfl dX12_drives_15 ?_
      refine lv_icmp_ge (tgt := 34) hx hb dX12_drives_18 (by decide) (fun c18 => ?_) (fun c18 => ?_)
      · replace hf := xif_pos c18 hf
        refine lv_aload_n hx hb dX12_drives_34 rfl (lv_at hl 0 rfl) ?_
        refine lv_ldc hx hb hown (hts (.constant RX12 125 (2000000000)) (by decide +kernel)) dX12_drives_35 ?_
        refine x_puti hx hb hw (cM0 hE) (own := RX12) (ref := RX12) (C := RX12) (T := TX12) (N := 20) hts hiX12 tyX12 tyX12_ok nmX12 hown rfl 19 (by decide) hk212 (fun _ h9 => h9) rfl (by decide +kernel) rfl dX12_drives_37 (fun σ3 H locs ex hw => ?_)
        replace hf := xp_f hf σ3 ex
        clear ex
        refine lv_iconst (v := 1) hx hb dX12_drives_40 (by decide) ?_
        refine lv_istore_n (lv' := [(2, .int 1), (0, .ref (E.a 0)), (1, .int a1)]) hx hb dX12_drives_41 rfl hl (by decide) rfl (fun ls hl => ?_)
        exact h42 xFU a1 1 σ3 _ _ _ hw (lv_sub hl [1, 2, 0] rfl) hf
      · replace hf := xif_neg c18 hf
        refine lv_aload_n hx hb dX12_drives_21 rfl (lv_at hl 0 rfl) ?_
        refine x_getr hx hb hw (cM0 hE) (own := RX12) (ref := RX12) (C := RX12) (T := TX12) (N := 20) hts hiX12 hown rfl 16 (by decide) hk40 (fun _ h9 => h9) rfl dX12_drives_22 ?_
        refine lv_iload_n hx hb dX12_drives_25 rfl (lv_at hl 2 rfl) ?_
        refine lv_iload_n hx hb dX12_drives_26 rfl (lv_at hl 2 rfl) ?_
        obtain ⟨hin, hf⟩ := xs_f hf
        refine x_iast hx hb hw (cM11 hE) hin dX12_drives_27 (fun σ4 H locs ex hw => ?_)
        replace hf := hf σ4 ex
        clear ex hin
        obtain ⟨v5, ex⟩ : ∃ y : Int32, y = (a2 + 1) := ⟨_, rfl⟩
        replace hf := xl_f hf v5 ex
        refine lv_iinc (v := v5) (lv' := [(2, .int v5), (0, .ref (E.a 0)), (1, .int a1)]) hx hb dX12_drives_28 hl (k := 2) rfl (by rw [ex]; rfl) (by decide) rfl (fun ls hl => ?_)
        clear ex
        refine lv_goto (tgt := 13) hx hb dX12_drives_31 (by decide) ?_
        exact ih13 a1 v5 σ4 _ _ _ hw (lv_sub hl [1, 2, 0] rfl) hf
  refine lv_aload_n hx hb dX12_drives_0 rfl (lv_at hl 0 rfl) ?_
  refine lv_aload_n hx hb dX12_drives_1 rfl (lv_at hl 0 rfl) ?_
  refine x_getr hx hb hw (cM0 hE) (own := RX12) (ref := RX12) (C := RX12) (T := TX12) (N := 20) hts hiX12 hown rfl 1 (by decide) hk9 (fun _ h9 => h9) rfl dX12_drives_2 ?_
  refine lv_bipush (v := 7) hx hb dX12_drives_5 (by decide) ?_
  obtain ⟨hin, hf⟩ := xr_f hf
  refine x_iald hx hb hw (cM1 hE) hin dX12_drives_7 ?_
  refine lv_topi (fun v1 ex => ?_)
  replace hf := hf v1 ex
  clear ex hin
  refine x_puti hx hb hw (cM0 hE) (own := RX12) (ref := RX12) (C := RX12) (T := TX12) (N := 20) hts hiX12 tyX12 tyX12_ok nmX12 hown rfl 18 (by decide) hk203 (fun _ h9 => h9) rfl (by decide +kernel) rfl dX12_drives_8 (fun σ2 H locs ex hw => ?_)
  replace hf := xp_f hf σ2 ex
  clear ex
  refine lv_iconst (v := 0) hx hb dX12_drives_11 (by decide) ?_
  refine lv_istore_n (lv' := [(2, .int 0), (0, .ref (E.a 0)), (1, .int p0)]) hx hb dX12_drives_12 rfl hl (by decide) rfl (fun ls hl => ?_)
  exact h13 xFU p0 0 σ2 _ _ _ hw (lv_sub hl [1, 2, 0] rfl) hf

def fX12_comesBack (p0 : Int32) (σ : xSt) : Option (Int32 × xSt) := (xc2 (fX12_in p0 0 600 σ) fun r1 σ2 => (xc2 (fX12_can r1 1 σ2) fun r3 σ4 => (if r3 = 0 then some (0, σ4) else (xc2 (fX12_drives p0 σ4) fun r5 σ6 => (xc2 (fX12_can r5 2 σ6) fun r7 σ8 => (if r7 = 0 then some (0, σ8) else some ((σ8 0 19), σ8)))))))
abbrev rmX12_comesBack : Room := { frames := 3, cells := 0, slots := 0, locals := 70 }
set_option maxRecDepth 100000 in
set_option maxHeartbeats 4000000 in
theorem mX12_comesBack {l : Launch} {E : xE} (hE : E.sh = shM) (p0 : Int32) (σ : xSt) (o1 : Int32) (o2 : xSt) (hf : fX12_comesBack p0 σ = some (o1, o2)) : xMi l yX12_comesBack wsX12_comesBack rmX12_comesBack E [.ref (E.a 0), .int p0] σ o1 o2 := by
  unfold fX12_comesBack at hf
  refine xMi_of (cc := cX12_comesBack) (maxL := 2) (ret := (some .int)) (by decide) rfl (Nat.le_of_ble_eq_true rfl) ?_
  intro p e s m args below meth c A ls ⟨hx, hb, hr, hml, hown, hts, hlk⟩ hA hG hw hl
  have hown : s.vm.findClass RX12 = some m.cls := hown
  have hl : lv_has ls 2 [(0, .ref (E.a 0)), (1, .int p0)] := hl
  have hk212 := hts (.fieldLink RX12 212 "OvenRoundModel" "bestEnd" "I") (by decide +kernel)
  have hiX12 : ∀ w ∈ wsX120, w ∈ wsX12_comesBack := by decide +kernel
  refine lv_aload_n hx hb dX12_comesBack_0 rfl (lv_at hl 0 rfl) ?_
  refine lv_iload_n hx hb dX12_comesBack_1 rfl (lv_at hl 1 rfl) ?_
  refine lv_iconst (v := 0) hx hb dX12_comesBack_2 (by decide) ?_
  refine lv_sipush (v := 600) hx hb dX12_comesBack_3 (by decide) ?_
  obtain ⟨r1, σ2, hcl, hf⟩ := xc2_f hf
  refine x_calli (va_runS (As := [.int p0, .int 0, .int 600]) (rest := [.ref (E.a 0)]) ⟨hx, hb, hml, hown, hts⟩ (mX12_in hE p0 0 600 σ r1 σ2 hcl s.heap.size) (va_cwS 3 hts gX12_comesBack_X12_in rfl rfl rfl (by decide +kernel) ⟨Nat.le_of_ble_eq_true rfl, Nat.le_of_ble_eq_true rfl⟩) (x_preS _ hw hA hG) rfl rfl hl.1 rfl (lv_room (Nat.le_of_ble_eq_true rfl)) dX12_comesBack_6 ⟨Nat.le_of_ble_eq_true rfl, Nat.le_of_ble_eq_true rfl⟩) hw hA (fun H locs hw => ?_)
  clear hcl
  refine lv_iconst (v := 1) hx hb dX12_comesBack_9 (by decide) ?_
  obtain ⟨r3, σ4, hcl, hf⟩ := xc2_f hf
  refine x_calli (va_runV (As := [.int r1, .int 1]) (rest := []) ⟨hx, hb, hml, hown, hts⟩ (mX12_can hE r1 1 σ2 r3 σ4 hcl H.size) (cwV 2 hts gX12_comesBack_X12_can rfl rfl rfl (by decide +kernel) ⟨Nat.le_of_ble_eq_true rfl, Nat.le_of_ble_eq_true rfl⟩) (x_preV _ hw hA hG (cM0 hE) rfl) rfl rfl hl.1 rfl (lv_room (Nat.le_of_ble_eq_true rfl)) dX12_comesBack_10 ⟨Nat.le_of_ble_eq_true rfl, Nat.le_of_ble_eq_true rfl⟩) hw hA (fun H locs hw => ?_)
  clear hcl
  refine lv_if_eq (tgt := 36) hx hb dX12_comesBack_13 (by decide) (fun c13 => ?_) (fun c13 => ?_)
  · replace hf := xif_pos c13 hf
    refine lv_iconst (v := 0) hx hb dX12_comesBack_36 (by decide) ?_
    exact x_iret hx hb hr hlk hw hf dX12_comesBack_37
  · replace hf := xif_neg c13 hf
    refine lv_aload_n hx hb dX12_comesBack_16 rfl (lv_at hl 0 rfl) ?_
    refine lv_aload_n hx hb dX12_comesBack_17 rfl (lv_at hl 0 rfl) ?_
    refine lv_iload_n hx hb dX12_comesBack_18 rfl (lv_at hl 1 rfl) ?_
    obtain ⟨r5, σ6, hcl, hf⟩ := xc2_f hf
    refine x_calli (va_runV (As := [.int p0]) (rest := [.ref (E.a 0)]) ⟨hx, hb, hml, hown, hts⟩ (mX12_drives hE p0 σ4 r5 σ6 hcl H.size) (cwV 1 hts gX12_comesBack_X12_drives rfl rfl rfl (by decide +kernel) ⟨Nat.le_of_ble_eq_true rfl, Nat.le_of_ble_eq_true rfl⟩) (x_preV _ hw hA hG (cM0 hE) rfl) rfl rfl hl.1 rfl (lv_room (Nat.le_of_ble_eq_true rfl)) dX12_comesBack_19 ⟨Nat.le_of_ble_eq_true rfl, Nat.le_of_ble_eq_true rfl⟩) hw hA (fun H locs hw => ?_)
    clear hcl
    refine lv_iconst (v := 2) hx hb dX12_comesBack_22 (by decide) ?_
    obtain ⟨r7, σ8, hcl, hf⟩ := xc2_f hf
    refine x_calli (va_runV (As := [.int r5, .int 2]) (rest := []) ⟨hx, hb, hml, hown, hts⟩ (mX12_can hE r5 2 σ6 r7 σ8 hcl H.size) (cwV 2 hts gX12_comesBack_X12_can rfl rfl rfl (by decide +kernel) ⟨Nat.le_of_ble_eq_true rfl, Nat.le_of_ble_eq_true rfl⟩) (x_preV _ hw hA hG (cM0 hE) rfl) rfl rfl hl.1 rfl (lv_room (Nat.le_of_ble_eq_true rfl)) dX12_comesBack_23 ⟨Nat.le_of_ble_eq_true rfl, Nat.le_of_ble_eq_true rfl⟩) hw hA (fun H locs hw => ?_)
    clear hcl
    refine lv_if_eq (tgt := 36) hx hb dX12_comesBack_26 (by decide) (fun c26 => ?_) (fun c26 => ?_)
    · replace hf := xif_pos c26 hf
      refine lv_iconst (v := 0) hx hb dX12_comesBack_36 (by decide) ?_
      exact x_iret hx hb hr hlk hw hf dX12_comesBack_37
    · replace hf := xif_neg c26 hf
      refine lv_aload_n hx hb dX12_comesBack_29 rfl (lv_at hl 0 rfl) ?_
      refine x_geti hx hb hw (cM0 hE) (own := RX12) (ref := RX12) (C := RX12) (T := TX12) (N := 20) hts hiX12 hown rfl 19 (by decide) hk212 (fun _ h9 => h9) rfl dX12_comesBack_30 ?_
      refine lv_goto (tgt := 37) hx hb dX12_comesBack_33 (by decide) ?_
      exact x_iret hx hb hr hlk hw hf dX12_comesBack_37

def fX12_shopOf (p0 : Int32) (p1 : Int32) (σ : xSt) : Option (Int32 × xSt) := (xr σ 1 680 7 fun v1 => (xc2 (fX12_in p1 0 (v1 - 1) σ) fun r2 σ3 => (xc2 (fX12_can r2 1 σ3) fun r4 σ5 => (if r4 = 0 then some (0, σ5) else (xc2 (fX12_in p0 0 600 σ5) fun r6 σ7 => (xc2 (fX12_can r6 2 σ7) fun r8 σ9 => (if r8 = 0 then some (0, σ9) else (xc2 (fX12_drives p0 σ9) fun r10 σ11 => (xc2 (fX12_can r10 3 σ11) fun r12 σ13 => (if r12 = 0 then some (0, σ13) else (xr σ13 12 8 p1 fun v14 => some (v14, σ13))))))))))))
abbrev rmX12_shopOf : Room := { frames := 3, cells := 0, slots := 0, locals := 70 }
set_option maxRecDepth 100000 in
set_option maxHeartbeats 4000000 in
theorem mX12_shopOf {l : Launch} {E : xE} (hE : E.sh = shM) (p0 : Int32) (p1 : Int32) (σ : xSt) (o1 : Int32) (o2 : xSt) (hf : fX12_shopOf p0 p1 σ = some (o1, o2)) : xMi l yX12_shopOf wsX12_shopOf rmX12_shopOf E [.ref (E.a 0), .int p0, .int p1] σ o1 o2 := by
  unfold fX12_shopOf at hf
  refine xMi_of (cc := cX12_shopOf) (maxL := 3) (ret := (some .int)) (by decide) rfl (Nat.le_of_ble_eq_true rfl) ?_
  intro p e s m args below meth c A ls ⟨hx, hb, hr, hml, hown, hts, hlk⟩ hA hG hw hl
  have hown : s.vm.findClass RX12 = some m.cls := hown
  have hl : lv_has ls 3 [(0, .ref (E.a 0)), (1, .int p0), (2, .int p1)] := hl
  have hk9 := hts (.fieldLink RX12 9 "OvenRoundModel" "w" "[I") (by decide +kernel)
  have hiX12 : ∀ w ∈ wsX120, w ∈ wsX12_shopOf := by decide +kernel
  have hk43 := hts (.fieldLink RX12 43 "OvenRoundModel" "bestRow" "[I") (by decide +kernel)
  refine lv_aload_n hx hb dX12_shopOf_0 rfl (lv_at hl 0 rfl) ?_
  refine lv_iload_n hx hb dX12_shopOf_1 rfl (lv_at hl 2 rfl) ?_
  refine lv_iconst (v := 0) hx hb dX12_shopOf_2 (by decide) ?_
  refine lv_aload_n hx hb dX12_shopOf_3 rfl (lv_at hl 0 rfl) ?_
  refine x_getr hx hb hw (cM0 hE) (own := RX12) (ref := RX12) (C := RX12) (T := TX12) (N := 20) hts hiX12 hown rfl 1 (by decide) hk9 (fun _ h9 => h9) rfl dX12_shopOf_4 ?_
  refine lv_bipush (v := 7) hx hb dX12_shopOf_7 (by decide) ?_
  obtain ⟨hin, hf⟩ := xr_f hf
  refine x_iald hx hb hw (cM1 hE) hin dX12_shopOf_9 ?_
  refine lv_topi (fun v1 ex => ?_)
  replace hf := hf v1 ex
  clear ex hin
  refine lv_iconst (v := 1) hx hb dX12_shopOf_10 (by decide) ?_
  refine lv_isub hx hb dX12_shopOf_11 ?_
  obtain ⟨r2, σ3, hcl, hf⟩ := xc2_f hf
  refine x_calli (va_runS (As := [.int p1, .int 0, .int (v1 - 1)]) (rest := [.ref (E.a 0)]) ⟨hx, hb, hml, hown, hts⟩ (mX12_in hE p1 0 (v1 - 1) σ r2 σ3 hcl s.heap.size) (va_cwS 3 hts gX12_shopOf_X12_in rfl rfl rfl (by decide +kernel) ⟨Nat.le_of_ble_eq_true rfl, Nat.le_of_ble_eq_true rfl⟩) (x_preS _ hw hA hG) rfl rfl hl.1 rfl (lv_room (Nat.le_of_ble_eq_true rfl)) dX12_shopOf_12 ⟨Nat.le_of_ble_eq_true rfl, Nat.le_of_ble_eq_true rfl⟩) hw hA (fun H locs hw => ?_)
  clear hcl
  refine lv_iconst (v := 1) hx hb dX12_shopOf_15 (by decide) ?_
  obtain ⟨r4, σ5, hcl, hf⟩ := xc2_f hf
  refine x_calli (va_runV (As := [.int r2, .int 1]) (rest := []) ⟨hx, hb, hml, hown, hts⟩ (mX12_can hE r2 1 σ3 r4 σ5 hcl H.size) (cwV 2 hts gX12_shopOf_X12_can rfl rfl rfl (by decide +kernel) ⟨Nat.le_of_ble_eq_true rfl, Nat.le_of_ble_eq_true rfl⟩) (x_preV _ hw hA hG (cM0 hE) rfl) rfl rfl hl.1 rfl (lv_room (Nat.le_of_ble_eq_true rfl)) dX12_shopOf_16 ⟨Nat.le_of_ble_eq_true rfl, Nat.le_of_ble_eq_true rfl⟩) hw hA (fun H locs hw => ?_)
  clear hcl
  refine lv_if_eq (tgt := 51) hx hb dX12_shopOf_19 (by decide) (fun c19 => ?_) (fun c19 => ?_)
  · replace hf := xif_pos c19 hf
    refine lv_iconst (v := 0) hx hb dX12_shopOf_51 (by decide) ?_
    exact x_iret hx hb hr hlk hw hf dX12_shopOf_52
  · replace hf := xif_neg c19 hf
    refine lv_aload_n hx hb dX12_shopOf_22 rfl (lv_at hl 0 rfl) ?_
    refine lv_iload_n hx hb dX12_shopOf_23 rfl (lv_at hl 1 rfl) ?_
    refine lv_iconst (v := 0) hx hb dX12_shopOf_24 (by decide) ?_
    refine lv_sipush (v := 600) hx hb dX12_shopOf_25 (by decide) ?_
    obtain ⟨r6, σ7, hcl, hf⟩ := xc2_f hf
    refine x_calli (va_runS (As := [.int p0, .int 0, .int 600]) (rest := [.ref (E.a 0)]) ⟨hx, hb, hml, hown, hts⟩ (mX12_in hE p0 0 600 σ5 r6 σ7 hcl H.size) (va_cwS 3 hts gX12_shopOf_X12_in rfl rfl rfl (by decide +kernel) ⟨Nat.le_of_ble_eq_true rfl, Nat.le_of_ble_eq_true rfl⟩) (x_preS _ hw hA hG) rfl rfl hl.1 rfl (lv_room (Nat.le_of_ble_eq_true rfl)) dX12_shopOf_28 ⟨Nat.le_of_ble_eq_true rfl, Nat.le_of_ble_eq_true rfl⟩) hw hA (fun H locs hw => ?_)
    clear hcl
    refine lv_iconst (v := 2) hx hb dX12_shopOf_31 (by decide) ?_
    obtain ⟨r8, σ9, hcl, hf⟩ := xc2_f hf
    refine x_calli (va_runV (As := [.int r6, .int 2]) (rest := []) ⟨hx, hb, hml, hown, hts⟩ (mX12_can hE r6 2 σ7 r8 σ9 hcl H.size) (cwV 2 hts gX12_shopOf_X12_can rfl rfl rfl (by decide +kernel) ⟨Nat.le_of_ble_eq_true rfl, Nat.le_of_ble_eq_true rfl⟩) (x_preV _ hw hA hG (cM0 hE) rfl) rfl rfl hl.1 rfl (lv_room (Nat.le_of_ble_eq_true rfl)) dX12_shopOf_32 ⟨Nat.le_of_ble_eq_true rfl, Nat.le_of_ble_eq_true rfl⟩) hw hA (fun H locs hw => ?_)
    clear hcl
    refine lv_if_eq (tgt := 51) hx hb dX12_shopOf_35 (by decide) (fun c35 => ?_) (fun c35 => ?_)
    · replace hf := xif_pos c35 hf
      refine lv_iconst (v := 0) hx hb dX12_shopOf_51 (by decide) ?_
      exact x_iret hx hb hr hlk hw hf dX12_shopOf_52
    · replace hf := xif_neg c35 hf
      refine lv_aload_n hx hb dX12_shopOf_38 rfl (lv_at hl 0 rfl) ?_
      refine lv_aload_n hx hb dX12_shopOf_39 rfl (lv_at hl 0 rfl) ?_
      refine lv_iload_n hx hb dX12_shopOf_40 rfl (lv_at hl 1 rfl) ?_
      obtain ⟨r10, σ11, hcl, hf⟩ := xc2_f hf
      refine x_calli (va_runV (As := [.int p0]) (rest := [.ref (E.a 0)]) ⟨hx, hb, hml, hown, hts⟩ (mX12_drives hE p0 σ9 r10 σ11 hcl H.size) (cwV 1 hts gX12_shopOf_X12_drives rfl rfl rfl (by decide +kernel) ⟨Nat.le_of_ble_eq_true rfl, Nat.le_of_ble_eq_true rfl⟩) (x_preV _ hw hA hG (cM0 hE) rfl) rfl rfl hl.1 rfl (lv_room (Nat.le_of_ble_eq_true rfl)) dX12_shopOf_41 ⟨Nat.le_of_ble_eq_true rfl, Nat.le_of_ble_eq_true rfl⟩) hw hA (fun H locs hw => ?_)
      clear hcl
      refine lv_iconst (v := 3) hx hb dX12_shopOf_44 (by decide) ?_
      obtain ⟨r12, σ13, hcl, hf⟩ := xc2_f hf
      refine x_calli (va_runV (As := [.int r10, .int 3]) (rest := []) ⟨hx, hb, hml, hown, hts⟩ (mX12_can hE r10 3 σ11 r12 σ13 hcl H.size) (cwV 2 hts gX12_shopOf_X12_can rfl rfl rfl (by decide +kernel) ⟨Nat.le_of_ble_eq_true rfl, Nat.le_of_ble_eq_true rfl⟩) (x_preV _ hw hA hG (cM0 hE) rfl) rfl rfl hl.1 rfl (lv_room (Nat.le_of_ble_eq_true rfl)) dX12_shopOf_45 ⟨Nat.le_of_ble_eq_true rfl, Nat.le_of_ble_eq_true rfl⟩) hw hA (fun H locs hw => ?_)
      clear hcl
      refine lv_if_ne (tgt := 53) hx hb dX12_shopOf_48 (by decide) (fun c48 => ?_) (fun c48 => ?_)
      · replace hf := xif_neg c48 hf
        refine lv_aload_n hx hb dX12_shopOf_53 rfl (lv_at hl 0 rfl) ?_
        refine x_getr hx hb hw (cM0 hE) (own := RX12) (ref := RX12) (C := RX12) (T := TX12) (N := 20) hts hiX12 hown rfl 17 (by decide) hk43 (fun _ h9 => h9) rfl dX12_shopOf_54 ?_
        refine lv_iload_n hx hb dX12_shopOf_57 rfl (lv_at hl 2 rfl) ?_
        obtain ⟨hin, hf⟩ := xr_f hf
        refine x_iald hx hb hw (cM12 hE) hin dX12_shopOf_58 ?_
        refine lv_topi (fun v14 ex => ?_)
        replace hf := hf v14 ex
        clear ex hin
        exact x_iret hx hb hr hlk hw hf dX12_shopOf_59
      · replace hf := xif_pos c48 hf
        refine lv_iconst (v := 0) hx hb dX12_shopOf_51 (by decide) ?_
        exact x_iret hx hb hr hlk hw hf dX12_shopOf_52

def fX12_isTold_c73 (k23 : (Int32 → Int32 → Int32 → Int32 → xSt → Option (Int32 × xSt))) (a1 : Int32) (a2 : Int32) (a4 : Int32) (t0 : Int32) (t1 : Int32) (σ : xSt) : Option (Int32 × xSt) := (xl (t1 ||| t0) fun v9 => (xl (a2 / 10) fun v10 => (xl (a4 + (-1)) fun v11 => k23 a1 v10 v9 v11 σ)))
def fX12_isTold_c23 : Nat → Int32 → Int32 → Int32 → Int32 → xSt → Option (Int32 × xSt)
  | 0 => fun _ _ _ _ _ => none
  | n + 1 => fun a1 a2 a3 a4 σ => (if a4 < 0 then (if a1 < 0 then some (0, σ) else (if a2 = 0 then (if a3 = ((1 <<< ((σ 0 18) &&& 31)) - 1) then some (1, σ) else some (0, σ)) else some (0, σ))) else (xs σ 11 8 a4 (a2 - a2 / 10 * 10) fun σ4 => (xr σ4 11 8 a4 fun v5 => (xc2 (fX12_in v5 0 ((σ4 0 18) - 1) σ4) fun r6 σ7 => (if r6 = 0 then fX12_isTold_c73 (fX12_isTold_c23 n) a1 a2 a4 0 a3 σ7 else (xr σ7 11 8 a4 fun v8 => fX12_isTold_c73 (fX12_isTold_c23 n) a1 a2 a4 (1 <<< (v8 &&& 31)) a3 σ7))))))
theorem fX12_isTold_c23_s (n : Nat) (a1 : Int32) (a2 : Int32) (a3 : Int32) (a4 : Int32) (σ : xSt) : fX12_isTold_c23 (n + 1) a1 a2 a3 a4 σ = ((if a4 < 0 then (if a1 < 0 then some (0, σ) else (if a2 = 0 then (if a3 = ((1 <<< ((σ 0 18) &&& 31)) - 1) then some (1, σ) else some (0, σ)) else some (0, σ))) else (xs σ 11 8 a4 (a2 - a2 / 10 * 10) fun σ4 => (xr σ4 11 8 a4 fun v5 => (xc2 (fX12_in v5 0 ((σ4 0 18) - 1) σ4) fun r6 σ7 => (if r6 = 0 then fX12_isTold_c73 (fX12_isTold_c23 n) a1 a2 a4 0 a3 σ7 else (xr σ7 11 8 a4 fun v8 => fX12_isTold_c73 (fX12_isTold_c23 n) a1 a2 a4 (1 <<< (v8 &&& 31)) a3 σ7)))))) : Option (Int32 × xSt)) := rfl
def fX12_isTold (p0 : Int32) (σ : xSt) : Option (Int32 × xSt) := (xr σ 1 680 7 fun v1 => (xp σ 0 18 v1 fun σ2 => (xl ((σ2 0 18) - 1) fun v3 => fX12_isTold_c23 xFU p0 p0 0 v3 σ2)))
abbrev rmX12_isTold : Room := { frames := 1, cells := 0, slots := 0, locals := 22 }
set_option maxRecDepth 100000 in
set_option maxHeartbeats 4000000 in
theorem mX12_isTold {l : Launch} {E : xE} (hE : E.sh = shM) (p0 : Int32) (σ : xSt) (o1 : Int32) (o2 : xSt) (hf : fX12_isTold p0 σ = some (o1, o2)) : xMi l yX12_isTold wsX12_isTold rmX12_isTold E [.ref (E.a 0), .int p0] σ o1 o2 := by
  unfold fX12_isTold at hf
  refine xMi_of (cc := cX12_isTold) (maxL := 5) (ret := (some .boolean)) (by decide) rfl (Nat.le_of_ble_eq_true rfl) ?_
  intro p e s m args below meth c A ls ⟨hx, hb, hr, hml, hown, hts, hlk⟩ hA hG hw hl
  have hown : s.vm.findClass RX12 = some m.cls := hown
  have hl : lv_has ls 5 [(0, .ref (E.a 0)), (1, .int p0)] := hl
  have hk9 := hts (.fieldLink RX12 9 "OvenRoundModel" "w" "[I") (by decide +kernel)
  have hiX12 : ∀ w ∈ wsX120, w ∈ wsX12_isTold := by decide +kernel
  have hk203 := hts (.fieldLink RX12 203 "OvenRoundModel" "many" "I") (by decide +kernel)
  have hk40 := hts (.fieldLink RX12 40 "OvenRoundModel" "row" "[I") (by decide +kernel)
  have h23 : ∀ (n : Nat) (a1 : Int32) (a2 : Int32) (a3 : Int32) (a4 : Int32) (σ : xSt) (H : Heap) (locs : List Loc) (ls : Array Slot), xw E A s.heap s σ H locs → lv_has ls 5 [(0, .ref (E.a 0)), (1, .int a1), (2, .int a2), (3, .int a3), (4, .int a4)] → fX12_isTold_c23 n a1 a2 a3 a4 σ = some (o1, o2) → W p l e rmX12_isTold s m args below meth c H locs 0 0 (MQ below (xQi E A o1 o2) args s 0 0 A) (F0 m 23 ls []) := by
    intro n23
    induction n23 with
    | zero => intro a1 a2 a3 a4 σ H locs ls hw hl hf; exact nomatch hf
    | succ n23 ih23 =>
      have h73 : ∀ (a1 : Int32) (a2 : Int32) (a4 : Int32) (t0 : Int32) (t1 : Int32) (σ : xSt) (H : Heap) (locs : List Loc) (ls : Array Slot), xw E A s.heap s σ H locs → lv_has ls 5 [(0, .ref (E.a 0)), (1, .int a1), (2, .int a2), (4, .int a4)] → fX12_isTold_c73 (fX12_isTold_c23 n23) a1 a2 a4 t0 t1 σ = some (o1, o2) → W p l e rmX12_isTold s m args below meth c H locs 0 0 (MQ below (xQi E A o1 o2) args s 0 0 A) (F0 m 73 ls [.int t0, .int t1]) := by
        intro a1 a2 a4 t0 t1 σ H locs ls hw hl hf
        unfold fX12_isTold_c73 at hf
        refine lv_ior hx hb dX12_isTold_73 ?_
        refine lv_topi (fun v9 ex => ?_)
        replace hf := xl_f hf v9 ex
        clear ex
        refine lv_istore_n (lv' := [(3, .int v9), (0, .ref (E.a 0)), (1, .int a1), (2, .int a2), (4, .int a4)]) hx hb dX12_isTold_74 rfl hl (by decide) rfl (fun ls hl => ?_)
        refine lv_iload_n hx hb dX12_isTold_75 rfl (lv_at hl 3 rfl) ?_
        refine lv_bipush (v := 10) hx hb dX12_isTold_76 (by decide) ?_
        refine lv_idiv hx hb dX12_isTold_78 (by decide) ?_
        refine lv_topi (fun v10 ex => ?_)
        replace hf := xl_f hf v10 ex
        clear ex
        refine lv_istore_n (lv' := [(2, .int v10), (3, .int v9), (0, .ref (E.a 0)), (1, .int a1), (4, .int a4)]) hx hb dX12_isTold_79 rfl hl (by decide) rfl (fun ls hl => ?_)
        obtain ⟨v11, ex⟩ : ∃ y : Int32, y = (a4 + (-1)) := ⟨_, rfl⟩
        replace hf := xl_f hf v11 ex
        refine lv_iinc (v := v11) (lv' := [(4, .int v11), (2, .int v10), (3, .int v9), (0, .ref (E.a 0)), (1, .int a1)]) hx hb dX12_isTold_80 hl (k := 4) rfl (by rw [ex]; rfl) (by decide) rfl (fun ls hl => ?_)
        clear ex
        refine lv_goto (tgt := 23) hx hb dX12_isTold_83 (by decide) ?_
        exact ih23 a1 v10 v9 v11 σ _ _ _ hw (lv_sub hl [3, 4, 1, 2, 0] rfl) hf
      intro a1 a2 a3 a4 σ H locs ls hw hl hf
      rw [fX12_isTold_c23_s] at hf
      refine lv_iload hx hb dX12_isTold_23 (lv_at hl 4 rfl) ?_
      refine lv_if_lt (tgt := 86) hx hb dX12_isTold_25 (by decide) (fun c25 => ?_) (fun c25 => ?_)
      · replace hf := xif_pos c25 hf
        refine lv_iload_n hx hb dX12_isTold_86 rfl (lv_at hl 1 rfl) ?_
        refine lv_if_lt (tgt := 110) hx hb dX12_isTold_87 (by decide) (fun c87 => ?_) (fun c87 => ?_)
        · replace hf := xif_pos c87 hf
          refine lv_iconst (v := 0) hx hb dX12_isTold_110 (by decide) ?_
          exact x_zretc hx hb hr hlk hw (by decide) hf dX12_isTold_111
        · replace hf := xif_neg c87 hf
          refine lv_iload_n hx hb dX12_isTold_90 rfl (lv_at hl 2 rfl) ?_
          refine lv_if_ne (tgt := 110) hx hb dX12_isTold_91 (by decide) (fun c91 => ?_) (fun c91 => ?_)
          · replace hf := xif_neg c91 hf
            refine lv_iconst (v := 0) hx hb dX12_isTold_110 (by decide) ?_
            exact x_zretc hx hb hr hlk hw (by decide) hf dX12_isTold_111
          · replace hf := xif_pos c91 hf
            refine lv_iload_n hx hb dX12_isTold_94 rfl (lv_at hl 3 rfl) ?_
            refine lv_iconst (v := 1) hx hb dX12_isTold_95 (by decide) ?_
            refine lv_aload_n hx hb dX12_isTold_96 rfl (lv_at hl 0 rfl) ?_
            refine x_geti hx hb hw (cM0 hE) (own := RX12) (ref := RX12) (C := RX12) (T := TX12) (N := 20) hts hiX12 hown rfl 18 (by decide) hk203 (fun _ h9 => h9) rfl dX12_isTold_97 ?_
            refine lv_ishl hx hb dX12_isTold_100 ?_
            refine lv_iconst (v := 1) hx hb dX12_isTold_101 (by decide) ?_
            refine lv_isub hx hb dX12_isTold_102 ?_
            refine lv_icmp_ne (tgt := 110) hx hb dX12_isTold_103 (by decide) (fun c103 => ?_) (fun c103 => ?_)
            · replace hf := xif_neg c103 hf
              refine lv_iconst (v := 0) hx hb dX12_isTold_110 (by decide) ?_
              exact x_zretc hx hb hr hlk hw (by decide) hf dX12_isTold_111
            · replace hf := xif_pos c103 hf
              refine lv_iconst (v := 1) hx hb dX12_isTold_106 (by decide) ?_
              refine lv_goto (tgt := 111) hx hb dX12_isTold_107 (by decide) ?_
              exact x_zretc hx hb hr hlk hw (by decide) hf dX12_isTold_111
      · replace hf := xif_neg c25 hf
        refine lv_aload_n hx hb dX12_isTold_28 rfl (lv_at hl 0 rfl) ?_
        refine x_getr hx hb hw (cM0 hE) (own := RX12) (ref := RX12) (C := RX12) (T := TX12) (N := 20) hts hiX12 hown rfl 16 (by decide) hk40 (fun _ h9 => h9) rfl dX12_isTold_29 ?_
        refine lv_iload hx hb dX12_isTold_32 (lv_at hl 4 rfl) ?_
        refine lv_iload_n hx hb dX12_isTold_34 rfl (lv_at hl 2 rfl) ?_
        refine lv_bipush (v := 10) hx hb dX12_isTold_35 (by decide) ?_
        refine lv_irem hx hb dX12_isTold_37 (by decide) ?_
        obtain ⟨hin, hf⟩ := xs_f hf
        refine x_iast hx hb hw (cM11 hE) hin dX12_isTold_38 (fun σ4 H locs ex hw => ?_)
        replace hf := hf σ4 ex
        clear ex hin
        refine lv_iload_n hx hb dX12_isTold_39 rfl (lv_at hl 3 rfl) ?_
        refine lv_aload_n hx hb dX12_isTold_40 rfl (lv_at hl 0 rfl) ?_
        refine x_getr hx hb hw (cM0 hE) (own := RX12) (ref := RX12) (C := RX12) (T := TX12) (N := 20) hts hiX12 hown rfl 16 (by decide) hk40 (fun _ h9 => h9) rfl dX12_isTold_41 ?_
        refine lv_iload hx hb dX12_isTold_44 (lv_at hl 4 rfl) ?_
        obtain ⟨hin, hf⟩ := xr_f hf
        refine x_iald hx hb hw (cM11 hE) hin dX12_isTold_46 ?_
        refine lv_topi (fun v5 ex => ?_)
        replace hf := hf v5 ex
        clear ex hin
        refine lv_iconst (v := 0) hx hb dX12_isTold_47 (by decide) ?_
        refine lv_aload_n hx hb dX12_isTold_48 rfl (lv_at hl 0 rfl) ?_
        refine x_geti hx hb hw (cM0 hE) (own := RX12) (ref := RX12) (C := RX12) (T := TX12) (N := 20) hts hiX12 hown rfl 18 (by decide) hk203 (fun _ h9 => h9) rfl dX12_isTold_49 ?_
        refine lv_iconst (v := 1) hx hb dX12_isTold_52 (by decide) ?_
        refine lv_isub hx hb dX12_isTold_53 ?_
        obtain ⟨r6, σ7, hcl, hf⟩ := xc2_f hf
        refine x_calli (va_runS (As := [.int v5, .int 0, .int ((σ4 0 18) - 1)]) (rest := [.int a3]) ⟨hx, hb, hml, hown, hts⟩ (mX12_in hE v5 0 ((σ4 0 18) - 1) σ4 r6 σ7 hcl H.size) (va_cwS 3 hts gX12_isTold_X12_in rfl rfl rfl (by decide +kernel) ⟨Nat.le_of_ble_eq_true rfl, Nat.le_of_ble_eq_true rfl⟩) (x_preS _ hw hA hG) rfl rfl hl.1 rfl (lv_room (Nat.le_of_ble_eq_true rfl)) dX12_isTold_54 ⟨Nat.le_of_ble_eq_true rfl, Nat.le_of_ble_eq_true rfl⟩) hw hA (fun H locs hw => ?_)
        clear hcl
        refine lv_if_eq (tgt := 72) hx hb dX12_isTold_57 (by decide) (fun c57 => ?_) (fun c57 => ?_)
        · replace hf := xif_pos c57 hf
          refine lv_iconst (v := 0) hx hb dX12_isTold_72 (by decide) ?_
          exact h73 a1 a2 a4 0 a3 σ7 _ _ _ hw (lv_sub hl [0, 1, 2, 4] rfl) hf
        · replace hf := xif_neg c57 hf
          refine lv_iconst (v := 1) hx hb dX12_isTold_60 (by decide) ?_
          refine lv_aload_n hx hb dX12_isTold_61 rfl (lv_at hl 0 rfl) ?_
          refine x_getr hx hb hw (cM0 hE) (own := RX12) (ref := RX12) (C := RX12) (T := TX12) (N := 20) hts hiX12 hown rfl 16 (by decide) hk40 (fun _ h9 => h9) rfl dX12_isTold_62 ?_
          refine lv_iload hx hb dX12_isTold_65 (lv_at hl 4 rfl) ?_
          obtain ⟨hin, hf⟩ := xr_f hf
          refine x_iald hx hb hw (cM11 hE) hin dX12_isTold_67 ?_
          refine lv_topi (fun v8 ex => ?_)
          replace hf := hf v8 ex
          clear ex hin
          refine lv_ishl hx hb dX12_isTold_68 ?_
          refine lv_goto (tgt := 73) hx hb dX12_isTold_69 (by decide) ?_
          exact h73 a1 a2 a4 (1 <<< (v8 &&& 31)) a3 σ7 _ _ _ hw (lv_sub hl [0, 1, 2, 4] rfl) hf
  refine lv_aload_n hx hb dX12_isTold_0 rfl (lv_at hl 0 rfl) ?_
  refine lv_aload_n hx hb dX12_isTold_1 rfl (lv_at hl 0 rfl) ?_
  refine x_getr hx hb hw (cM0 hE) (own := RX12) (ref := RX12) (C := RX12) (T := TX12) (N := 20) hts hiX12 hown rfl 1 (by decide) hk9 (fun _ h9 => h9) rfl dX12_isTold_2 ?_
  refine lv_bipush (v := 7) hx hb dX12_isTold_5 (by decide) ?_
  obtain ⟨hin, hf⟩ := xr_f hf
  refine x_iald hx hb hw (cM1 hE) hin dX12_isTold_7 ?_
  refine lv_topi (fun v1 ex => ?_)
  replace hf := hf v1 ex
  clear ex hin
  refine x_puti hx hb hw (cM0 hE) (own := RX12) (ref := RX12) (C := RX12) (T := TX12) (N := 20) hts hiX12 tyX12 tyX12_ok nmX12 hown rfl 18 (by decide) hk203 (fun _ h9 => h9) rfl (by decide +kernel) rfl dX12_isTold_8 (fun σ2 H locs ex hw => ?_)
  replace hf := xp_f hf σ2 ex
  clear ex
  refine lv_iload_n hx hb dX12_isTold_11 rfl (lv_at hl 1 rfl) ?_
  refine lv_istore_n (lv' := [(2, .int p0), (0, .ref (E.a 0)), (1, .int p0)]) hx hb dX12_isTold_12 rfl hl (by decide) rfl (fun ls hl => ?_)
  refine lv_iconst (v := 0) hx hb dX12_isTold_13 (by decide) ?_
  refine lv_istore_n (lv' := [(3, .int 0), (2, .int p0), (0, .ref (E.a 0)), (1, .int p0)]) hx hb dX12_isTold_14 rfl hl (by decide) rfl (fun ls hl => ?_)
  refine lv_aload_n hx hb dX12_isTold_15 rfl (lv_at hl 2 rfl) ?_
  refine x_geti hx hb hw (cM0 hE) (own := RX12) (ref := RX12) (C := RX12) (T := TX12) (N := 20) hts hiX12 hown rfl 18 (by decide) hk203 (fun _ h9 => h9) rfl dX12_isTold_16 ?_
  refine lv_iconst (v := 1) hx hb dX12_isTold_19 (by decide) ?_
  refine lv_isub hx hb dX12_isTold_20 ?_
  refine lv_topi (fun v3 ex => ?_)
  replace hf := xl_f hf v3 ex
  clear ex
  refine lv_istore (lv' := [(4, .int v3), (3, .int 0), (2, .int p0), (0, .ref (E.a 0)), (1, .int p0)]) hx hb dX12_isTold_21 hl (by decide) rfl (fun ls hl => ?_)
  exact h23 xFU p0 p0 0 v3 σ2 _ _ _ hw (lv_sub hl [3, 4, 2, 1, 0] rfl) hf

def fX12_wayBack_c25 (a1 : Int32) (t0 : Int32) (σ : xSt) : Option (Int32 × xSt) := (xc2 (fX12_can t0 1 σ) fun r5 σ6 => (if r5 = 0 then some (0, σ6) else (xc2 (fX12_back a1 σ6) fun r7 σ8 => (if r7 = 2000000000 then some ((-1), σ8) else some (r7, σ8)))))
def fX12_wayBack_c24 (a1 : Int32) (σ : xSt) : Option (Int32 × xSt) := fX12_wayBack_c25 a1 0 σ
def fX12_wayBack (p0 : Int32) (p1 : Int32) (σ : xSt) : Option (Int32 × xSt) := (xc2 (fX12_in p0 0 600 σ) fun r1 σ2 => (if r1 = 0 then fX12_wayBack_c24 p0 σ2 else (xc2 (fX12_isTold p1 σ2) fun r3 σ4 => (if r3 = 0 then fX12_wayBack_c24 p0 σ4 else fX12_wayBack_c25 p0 1 σ4))))
abbrev rmX12_wayBack : Room := { frames := 2, cells := 0, slots := 0, locals := 47 }
set_option maxRecDepth 100000 in
set_option maxHeartbeats 4000000 in
theorem mX12_wayBack {l : Launch} {E : xE} (hE : E.sh = shM) (p0 : Int32) (p1 : Int32) (σ : xSt) (o1 : Int32) (o2 : xSt) (hf : fX12_wayBack p0 p1 σ = some (o1, o2)) : xMi l yX12_wayBack wsX12_wayBack rmX12_wayBack E [.ref (E.a 0), .int p0, .int p1] σ o1 o2 := by
  unfold fX12_wayBack at hf
  refine xMi_of (cc := cX12_wayBack) (maxL := 4) (ret := (some .int)) (by decide) rfl (Nat.le_of_ble_eq_true rfl) ?_
  intro p e s m args below meth c A ls ⟨hx, hb, hr, hml, hown, hts, hlk⟩ hA hG hw hl
  have hown : s.vm.findClass RX12 = some m.cls := hown
  have hl : lv_has ls 4 [(0, .ref (E.a 0)), (1, .int p0), (2, .int p1)] := hl
  have h25 : ∀ (a1 : Int32) (t0 : Int32) (σ : xSt) (H : Heap) (locs : List Loc) (ls : Array Slot), xw E A s.heap s σ H locs → lv_has ls 4 [(0, .ref (E.a 0)), (1, .int a1)] → fX12_wayBack_c25 a1 t0 σ = some (o1, o2) → W p l e rmX12_wayBack s m args below meth c H locs 0 0 (MQ below (xQi E A o1 o2) args s 0 0 A) (F0 m 25 ls [.int t0, .ref (E.a 0)]) := by
    intro a1 t0 σ H locs ls hw hl hf
    unfold fX12_wayBack_c25 at hf
    refine lv_iconst (v := 1) hx hb dX12_wayBack_25 (by decide) ?_
    obtain ⟨r5, σ6, hcl, hf⟩ := xc2_f hf
    refine x_calli (va_runV (As := [.int t0, .int 1]) (rest := []) ⟨hx, hb, hml, hown, hts⟩ (mX12_can hE t0 1 σ r5 σ6 hcl H.size) (cwV 2 hts gX12_wayBack_X12_can rfl rfl rfl (by decide +kernel) ⟨Nat.le_of_ble_eq_true rfl, Nat.le_of_ble_eq_true rfl⟩) (x_preV _ hw hA hG (cM0 hE) rfl) rfl rfl hl.1 rfl (lv_room (Nat.le_of_ble_eq_true rfl)) dX12_wayBack_26 ⟨Nat.le_of_ble_eq_true rfl, Nat.le_of_ble_eq_true rfl⟩) hw hA (fun H locs hw => ?_)
    clear hcl
    refine lv_if_ne (tgt := 34) hx hb dX12_wayBack_29 (by decide) (fun c29 => ?_) (fun c29 => ?_)
    · replace hf := xif_neg c29 hf
      refine lv_aload_n hx hb dX12_wayBack_34 rfl (lv_at hl 0 rfl) ?_
      refine lv_iload_n hx hb dX12_wayBack_35 rfl (lv_at hl 1 rfl) ?_
      obtain ⟨r7, σ8, hcl, hf⟩ := xc2_f hf
      refine x_calli (va_runV (As := [.int a1]) (rest := []) ⟨hx, hb, hml, hown, hts⟩ (mX12_back hE a1 σ6 r7 σ8 hcl H.size) (cwV 1 hts gX12_wayBack_X12_back rfl rfl rfl (by decide +kernel) ⟨Nat.le_of_ble_eq_true rfl, Nat.le_of_ble_eq_true rfl⟩) (x_preV _ hw hA hG (cM0 hE) rfl) rfl rfl hl.1 rfl (lv_room (Nat.le_of_ble_eq_true rfl)) dX12_wayBack_36 ⟨Nat.le_of_ble_eq_true rfl, Nat.le_of_ble_eq_true rfl⟩) hw hA (fun H locs hw => ?_)
      clear hcl
      refine lv_istore_n (lv' := [(3, .int r7), (0, .ref (E.a 0)), (1, .int a1)]) hx hb dX12_wayBack_39 rfl hl (by decide) rfl (fun ls hl => ?_)
      refine lv_iload_n hx hb dX12_wayBack_40 rfl (lv_at hl 0 rfl) ?_
      refine lv_ldc hx hb hown (hts (.constant RX12 125 (2000000000)) (by decide +kernel)) dX12_wayBack_41 ?_
      refine lv_icmp_ne (tgt := 50) hx hb dX12_wayBack_43 (by decide) (fun c43 => ?_) (fun c43 => ?_)
      · replace hf := xif_neg c43 hf
        refine lv_iload_n hx hb dX12_wayBack_50 rfl (lv_at hl 0 rfl) ?_
        exact x_iret hx hb hr hlk hw hf dX12_wayBack_51
      · replace hf := xif_pos c43 hf
        refine lv_iconst (v := (-1)) hx hb dX12_wayBack_46 (by decide) ?_
        refine lv_goto (tgt := 51) hx hb dX12_wayBack_47 (by decide) ?_
        exact x_iret hx hb hr hlk hw hf dX12_wayBack_51
    · replace hf := xif_pos c29 hf
      refine lv_iconst (v := 0) hx hb dX12_wayBack_32 (by decide) ?_
      exact x_iret hx hb hr hlk hw hf dX12_wayBack_33
  have h24 : ∀ (a1 : Int32) (σ : xSt) (H : Heap) (locs : List Loc) (ls : Array Slot), xw E A s.heap s σ H locs → lv_has ls 4 [(0, .ref (E.a 0)), (1, .int a1)] → fX12_wayBack_c24 a1 σ = some (o1, o2) → W p l e rmX12_wayBack s m args below meth c H locs 0 0 (MQ below (xQi E A o1 o2) args s 0 0 A) (F0 m 24 ls [.ref (E.a 0)]) := by
    intro a1 σ H locs ls hw hl hf
    unfold fX12_wayBack_c24 at hf
    refine lv_iconst (v := 0) hx hb dX12_wayBack_24 (by decide) ?_
    exact h25 a1 0 σ _ _ _ hw (lv_sub hl [0, 1] rfl) hf
  refine lv_aload_n hx hb dX12_wayBack_0 rfl (lv_at hl 0 rfl) ?_
  refine lv_iload_n hx hb dX12_wayBack_1 rfl (lv_at hl 1 rfl) ?_
  refine lv_iconst (v := 0) hx hb dX12_wayBack_2 (by decide) ?_
  refine lv_sipush (v := 600) hx hb dX12_wayBack_3 (by decide) ?_
  obtain ⟨r1, σ2, hcl, hf⟩ := xc2_f hf
  refine x_calli (va_runS (As := [.int p0, .int 0, .int 600]) (rest := [.ref (E.a 0)]) ⟨hx, hb, hml, hown, hts⟩ (mX12_in hE p0 0 600 σ r1 σ2 hcl s.heap.size) (va_cwS 3 hts gX12_wayBack_X12_in rfl rfl rfl (by decide +kernel) ⟨Nat.le_of_ble_eq_true rfl, Nat.le_of_ble_eq_true rfl⟩) (x_preS _ hw hA hG) rfl rfl hl.1 rfl (lv_room (Nat.le_of_ble_eq_true rfl)) dX12_wayBack_6 ⟨Nat.le_of_ble_eq_true rfl, Nat.le_of_ble_eq_true rfl⟩) hw hA (fun H locs hw => ?_)
  clear hcl
  refine lv_if_eq (tgt := 24) hx hb dX12_wayBack_9 (by decide) (fun c9 => ?_) (fun c9 => ?_)
  · replace hf := xif_pos c9 hf
    exact h24 p0 σ2 _ _ _ hw (lv_sub hl [0, 1] rfl) hf
  · replace hf := xif_neg c9 hf
    refine lv_aload_n hx hb dX12_wayBack_12 rfl (lv_at hl 0 rfl) ?_
    refine lv_iload_n hx hb dX12_wayBack_13 rfl (lv_at hl 2 rfl) ?_
    obtain ⟨r3, σ4, hcl, hf⟩ := xc2_f hf
    refine x_calli (va_runV (As := [.int p1]) (rest := [.ref (E.a 0)]) ⟨hx, hb, hml, hown, hts⟩ (mX12_isTold hE p1 σ2 r3 σ4 hcl H.size) (cwV 1 hts gX12_wayBack_X12_isTold rfl rfl rfl (by decide +kernel) ⟨Nat.le_of_ble_eq_true rfl, Nat.le_of_ble_eq_true rfl⟩) (x_preV _ hw hA hG (cM0 hE) rfl) rfl rfl hl.1 rfl (lv_room (Nat.le_of_ble_eq_true rfl)) dX12_wayBack_14 ⟨Nat.le_of_ble_eq_true rfl, Nat.le_of_ble_eq_true rfl⟩) hw hA (fun H locs hw => ?_)
    clear hcl
    refine lv_if_eq (tgt := 24) hx hb dX12_wayBack_17 (by decide) (fun c17 => ?_) (fun c17 => ?_)
    · replace hf := xif_pos c17 hf
      exact h24 p0 σ4 _ _ _ hw (lv_sub hl [0, 1] rfl) hf
    · replace hf := xif_neg c17 hf
      refine lv_iconst (v := 1) hx hb dX12_wayBack_20 (by decide) ?_
      refine lv_goto (tgt := 25) hx hb dX12_wayBack_21 (by decide) ?_
      exact h25 p0 1 σ4 _ _ _ hw (lv_sub hl [0, 1] rfl) hf

def fX12_cleans (p0 : Int32) (p1 : Int32) (σ : xSt) : Option (Int32 × xSt) := (xr σ 1 680 (43 + p0) fun v1 => (xr σ 1 680 (43 + p1) fun v2 => (xl (v1 &&& (v2 ^^^ (-1))) fun v3 => some (((((3 * (v3 &&& 1)) + (5 * ((v3 >>> ((1 : Int32) &&& 31)) &&& 1))) + (2 * ((v3 >>> ((2 : Int32) &&& 31)) &&& 1))) + (4 * ((v3 >>> ((3 : Int32) &&& 31)) &&& 1))), σ))))
abbrev rmX12_cleans : Room := { frames := 0, cells := 0, slots := 0, locals := 0 }
set_option maxRecDepth 100000 in
set_option maxHeartbeats 4000000 in
theorem mX12_cleans {l : Launch} {E : xE} (hE : E.sh = shM) (p0 : Int32) (p1 : Int32) (σ : xSt) (o1 : Int32) (o2 : xSt) (hf : fX12_cleans p0 p1 σ = some (o1, o2)) : xMi l yX12_cleans wsX12_cleans rmX12_cleans E [.ref (E.a 0), .int p0, .int p1] σ o1 o2 := by
  unfold fX12_cleans at hf
  refine xMi_of (cc := cX12_cleans) (maxL := 4) (ret := (some .int)) (by decide) rfl (Nat.le_of_ble_eq_true rfl) ?_
  intro p e s m args below meth c A ls ⟨hx, hb, hr, hml, hown, hts, hlk⟩ hA hG hw hl
  have hown : s.vm.findClass RX12 = some m.cls := hown
  have hl : lv_has ls 4 [(0, .ref (E.a 0)), (1, .int p0), (2, .int p1)] := hl
  have hk9 := hts (.fieldLink RX12 9 "OvenRoundModel" "w" "[I") (by decide +kernel)
  have hiX12 : ∀ w ∈ wsX120, w ∈ wsX12_cleans := by decide +kernel
  refine lv_aload_n hx hb dX12_cleans_0 rfl (lv_at hl 0 rfl) ?_
  refine x_getr hx hb hw (cM0 hE) (own := RX12) (ref := RX12) (C := RX12) (T := TX12) (N := 20) hts hiX12 hown rfl 1 (by decide) hk9 (fun _ h9 => h9) rfl dX12_cleans_1 ?_
  refine lv_bipush (v := 43) hx hb dX12_cleans_4 (by decide) ?_
  refine lv_iload_n hx hb dX12_cleans_6 rfl (lv_at hl 1 rfl) ?_
  refine lv_iadd hx hb dX12_cleans_7 ?_
  obtain ⟨hin, hf⟩ := xr_f hf
  refine x_iald hx hb hw (cM1 hE) hin dX12_cleans_8 ?_
  refine lv_topi (fun v1 ex => ?_)
  replace hf := hf v1 ex
  clear ex hin
  refine lv_aload_n hx hb dX12_cleans_9 rfl (lv_at hl 0 rfl) ?_
  refine x_getr hx hb hw (cM0 hE) (own := RX12) (ref := RX12) (C := RX12) (T := TX12) (N := 20) hts hiX12 hown rfl 1 (by decide) hk9 (fun _ h9 => h9) rfl dX12_cleans_10 ?_
  refine lv_bipush (v := 43) hx hb dX12_cleans_13 (by decide) ?_
  refine lv_iload_n hx hb dX12_cleans_15 rfl (lv_at hl 2 rfl) ?_
  refine lv_iadd hx hb dX12_cleans_16 ?_
  obtain ⟨hin, hf⟩ := xr_f hf
  refine x_iald hx hb hw (cM1 hE) hin dX12_cleans_17 ?_
  refine lv_topi (fun v2 ex => ?_)
  replace hf := hf v2 ex
  clear ex hin
  refine lv_iconst (v := (-1)) hx hb dX12_cleans_18 (by decide) ?_
  refine lv_ixor hx hb dX12_cleans_19 ?_
  refine lv_iand hx hb dX12_cleans_20 ?_
  refine lv_topi (fun v3 ex => ?_)
  replace hf := xl_f hf v3 ex
  clear ex
  refine lv_istore_n (lv' := [(3, .int v3), (0, .ref (E.a 0)), (1, .int p0), (2, .int p1)]) hx hb dX12_cleans_21 rfl hl (by decide) rfl (fun ls hl => ?_)
  refine lv_iconst (v := 3) hx hb dX12_cleans_22 (by decide) ?_
  refine lv_iload_n hx hb dX12_cleans_23 rfl (lv_at hl 0 rfl) ?_
  refine lv_iconst (v := 1) hx hb dX12_cleans_24 (by decide) ?_
  refine lv_iand hx hb dX12_cleans_25 ?_
  refine lv_imul hx hb dX12_cleans_26 ?_
  refine lv_iconst (v := 5) hx hb dX12_cleans_27 (by decide) ?_
  refine lv_iload_n hx hb dX12_cleans_28 rfl (lv_at hl 0 rfl) ?_
  refine lv_iconst (v := 1) hx hb dX12_cleans_29 (by decide) ?_
  refine lv_ishr hx hb dX12_cleans_30 ?_
  refine lv_iconst (v := 1) hx hb dX12_cleans_31 (by decide) ?_
  refine lv_iand hx hb dX12_cleans_32 ?_
  refine lv_imul hx hb dX12_cleans_33 ?_
  refine lv_iadd hx hb dX12_cleans_34 ?_
  refine lv_iconst (v := 2) hx hb dX12_cleans_35 (by decide) ?_
  refine lv_iload_n hx hb dX12_cleans_36 rfl (lv_at hl 0 rfl) ?_
  refine lv_iconst (v := 2) hx hb dX12_cleans_37 (by decide) ?_
  refine lv_ishr hx hb dX12_cleans_38 ?_
  refine lv_iconst (v := 1) hx hb dX12_cleans_39 (by decide) ?_
  refine lv_iand hx hb dX12_cleans_40 ?_
  refine lv_imul hx hb dX12_cleans_41 ?_
  refine lv_iadd hx hb dX12_cleans_42 ?_
  refine lv_iconst (v := 4) hx hb dX12_cleans_43 (by decide) ?_
  refine lv_iload_n hx hb dX12_cleans_44 rfl (lv_at hl 0 rfl) ?_
  refine lv_iconst (v := 3) hx hb dX12_cleans_45 (by decide) ?_
  refine lv_ishr hx hb dX12_cleans_46 ?_
  refine lv_iconst (v := 1) hx hb dX12_cleans_47 (by decide) ?_
  refine lv_iand hx hb dX12_cleans_48 ?_
  refine lv_imul hx hb dX12_cleans_49 ?_
  refine lv_iadd hx hb dX12_cleans_50 ?_
  exact x_iret hx hb hr hlk hw hf dX12_cleans_51

def fX12_priceOfRow_c4 : Nat → Int32 → Int32 → xSt → Option (Int32 × xSt)
  | 0 => fun _ _ _ => none
  | n + 1 => fun a1 a2 σ => (if (σ 0 18) ≤ a2 then some (a1, σ) else (xr σ 11 8 (a2 - 1) fun v1 => (xr σ 11 8 a2 fun v2 => (xc2 (fX12_cleans v1 v2 σ) fun r3 σ4 => (xl (a1 + r3) fun v5 => (xl (a2 + 1) fun v6 => fX12_priceOfRow_c4 n v5 v6 σ4))))))
theorem fX12_priceOfRow_c4_s (n : Nat) (a1 : Int32) (a2 : Int32) (σ : xSt) : fX12_priceOfRow_c4 (n + 1) a1 a2 σ = ((if (σ 0 18) ≤ a2 then some (a1, σ) else (xr σ 11 8 (a2 - 1) fun v1 => (xr σ 11 8 a2 fun v2 => (xc2 (fX12_cleans v1 v2 σ) fun r3 σ4 => (xl (a1 + r3) fun v5 => (xl (a2 + 1) fun v6 => fX12_priceOfRow_c4 n v5 v6 σ4)))))) : Option (Int32 × xSt)) := rfl
def fX12_priceOfRow (σ : xSt) : Option (Int32 × xSt) := fX12_priceOfRow_c4 xFU 0 1 σ
abbrev rmX12_priceOfRow : Room := { frames := 1, cells := 0, slots := 0, locals := 23 }
set_option maxRecDepth 100000 in
set_option maxHeartbeats 4000000 in
theorem mX12_priceOfRow {l : Launch} {E : xE} (hE : E.sh = shM) (σ : xSt) (o1 : Int32) (o2 : xSt) (hf : fX12_priceOfRow σ = some (o1, o2)) : xMi l yX12_priceOfRow wsX12_priceOfRow rmX12_priceOfRow E [.ref (E.a 0)] σ o1 o2 := by
  unfold fX12_priceOfRow at hf
  refine xMi_of (cc := cX12_priceOfRow) (maxL := 3) (ret := (some .int)) (by decide) rfl (Nat.le_of_ble_eq_true rfl) ?_
  intro p e s m args below meth c A ls ⟨hx, hb, hr, hml, hown, hts, hlk⟩ hA hG hw hl
  have hown : s.vm.findClass RX12 = some m.cls := hown
  have hl : lv_has ls 3 [(0, .ref (E.a 0))] := hl
  have hk203 := hts (.fieldLink RX12 203 "OvenRoundModel" "many" "I") (by decide +kernel)
  have hiX12 : ∀ w ∈ wsX120, w ∈ wsX12_priceOfRow := by decide +kernel
  have hk40 := hts (.fieldLink RX12 40 "OvenRoundModel" "row" "[I") (by decide +kernel)
  have h4 : ∀ (n : Nat) (a1 : Int32) (a2 : Int32) (σ : xSt) (H : Heap) (locs : List Loc) (ls : Array Slot), xw E A s.heap s σ H locs → lv_has ls 3 [(0, .ref (E.a 0)), (1, .int a1), (2, .int a2)] → fX12_priceOfRow_c4 n a1 a2 σ = some (o1, o2) → W p l e rmX12_priceOfRow s m args below meth c H locs 0 0 (MQ below (xQi E A o1 o2) args s 0 0 A) (F0 m 4 ls []) := by
    intro n4
    induction n4 with
    | zero => intro a1 a2 σ H locs ls hw hl hf; exact nomatch hf
    | succ n4 ih4 =>
      intro a1 a2 σ H locs ls hw hl hf
      rw [fX12_priceOfRow_c4_s] at hf
      refine lv_iload_n hx hb dX12_priceOfRow_4 rfl (lv_at hl 2 rfl) ?_
      refine lv_aload_n hx hb dX12_priceOfRow_5 rfl (lv_at hl 0 rfl) ?_
      refine x_geti hx hb hw (cM0 hE) (own := RX12) (ref := RX12) (C := RX12) (T := TX12) (N := 20) hts hiX12 hown rfl 18 (by decide) hk203 (fun _ h9 => h9) rfl dX12_priceOfRow_6 ?_
      refine lv_icmp_ge (tgt := 39) hx hb dX12_priceOfRow_9 (by decide) (fun c9 => ?_) (fun c9 => ?_)
      · replace hf := xif_pos c9 hf
        refine lv_iload_n hx hb dX12_priceOfRow_39 rfl (lv_at hl 1 rfl) ?_
        exact x_iret hx hb hr hlk hw hf dX12_priceOfRow_40
      · replace hf := xif_neg c9 hf
        refine lv_iload_n hx hb dX12_priceOfRow_12 rfl (lv_at hl 1 rfl) ?_
        refine lv_aload_n hx hb dX12_priceOfRow_13 rfl (lv_at hl 0 rfl) ?_
        refine lv_aload_n hx hb dX12_priceOfRow_14 rfl (lv_at hl 0 rfl) ?_
        refine x_getr hx hb hw (cM0 hE) (own := RX12) (ref := RX12) (C := RX12) (T := TX12) (N := 20) hts hiX12 hown rfl 16 (by decide) hk40 (fun _ h9 => h9) rfl dX12_priceOfRow_15 ?_
        refine lv_iload_n hx hb dX12_priceOfRow_18 rfl (lv_at hl 2 rfl) ?_
        refine lv_iconst (v := 1) hx hb dX12_priceOfRow_19 (by decide) ?_
        refine lv_isub hx hb dX12_priceOfRow_20 ?_
        obtain ⟨hin, hf⟩ := xr_f hf
        refine x_iald hx hb hw (cM11 hE) hin dX12_priceOfRow_21 ?_
        refine lv_topi (fun v1 ex => ?_)
        replace hf := hf v1 ex
        clear ex hin
        refine lv_aload_n hx hb dX12_priceOfRow_22 rfl (lv_at hl 0 rfl) ?_
        refine x_getr hx hb hw (cM0 hE) (own := RX12) (ref := RX12) (C := RX12) (T := TX12) (N := 20) hts hiX12 hown rfl 16 (by decide) hk40 (fun _ h9 => h9) rfl dX12_priceOfRow_23 ?_
        refine lv_iload_n hx hb dX12_priceOfRow_26 rfl (lv_at hl 2 rfl) ?_
        obtain ⟨hin, hf⟩ := xr_f hf
        refine x_iald hx hb hw (cM11 hE) hin dX12_priceOfRow_27 ?_
        refine lv_topi (fun v2 ex => ?_)
        replace hf := hf v2 ex
        clear ex hin
        obtain ⟨r3, σ4, hcl, hf⟩ := xc2_f hf
        refine x_calli (va_runV (As := [.int v1, .int v2]) (rest := [.int a1]) ⟨hx, hb, hml, hown, hts⟩ (mX12_cleans hE v1 v2 σ r3 σ4 hcl H.size) (cwV 2 hts gX12_priceOfRow_X12_cleans rfl rfl rfl (by decide +kernel) ⟨Nat.le_of_ble_eq_true rfl, Nat.le_of_ble_eq_true rfl⟩) (x_preV _ hw hA hG (cM0 hE) rfl) rfl rfl hl.1 rfl (lv_room (Nat.le_of_ble_eq_true rfl)) dX12_priceOfRow_28 ⟨Nat.le_of_ble_eq_true rfl, Nat.le_of_ble_eq_true rfl⟩) hw hA (fun H locs hw => ?_)
        clear hcl
        refine lv_iadd hx hb dX12_priceOfRow_31 ?_
        refine lv_topi (fun v5 ex => ?_)
        replace hf := xl_f hf v5 ex
        clear ex
        refine lv_istore_n (lv' := [(1, .int v5), (0, .ref (E.a 0)), (2, .int a2)]) hx hb dX12_priceOfRow_32 rfl hl (by decide) rfl (fun ls hl => ?_)
        obtain ⟨v6, ex⟩ : ∃ y : Int32, y = (a2 + 1) := ⟨_, rfl⟩
        replace hf := xl_f hf v6 ex
        refine lv_iinc (v := v6) (lv' := [(2, .int v6), (1, .int v5), (0, .ref (E.a 0))]) hx hb dX12_priceOfRow_33 hl (k := 2) rfl (by rw [ex]; rfl) (by decide) rfl (fun ls hl => ?_)
        clear ex
        refine lv_goto (tgt := 4) hx hb dX12_priceOfRow_36 (by decide) ?_
        exact ih4 v5 v6 σ4 _ _ _ hw (lv_sub hl [2, 1, 0] rfl) hf
  refine lv_iconst (v := 0) hx hb dX12_priceOfRow_0 (by decide) ?_
  refine lv_istore_n (lv' := [(1, .int 0), (0, .ref (E.a 0))]) hx hb dX12_priceOfRow_1 rfl hl (by decide) rfl (fun ls hl => ?_)
  refine lv_iconst (v := 1) hx hb dX12_priceOfRow_2 (by decide) ?_
  refine lv_istore_n (lv' := [(2, .int 1), (1, .int 0), (0, .ref (E.a 0))]) hx hb dX12_priceOfRow_3 rfl hl (by decide) rfl (fun ls hl => ?_)
  exact h4 xFU 0 1 σ _ _ _ hw (lv_sub hl [2, 1, 0] rfl) hf

def fX12_rows_c78 (k56 : (Int32 → xSt → Option xSt)) (σ : xSt) : Option xSt := (xc2 (fX12_nextRow σ) fun r11 σ12 => k56 r11 σ12)
def fX12_rows_c56 : Nat → Int32 → xSt → Option xSt
  | 0 => fun _ _ => none
  | n + 1 => fun a2 σ => (if a2 = 0 then some σ else (xc2 (fX12_priceOfRow σ) fun r7 σ8 => (if (σ8 0 19) ≤ r7 then fX12_rows_c78 (fX12_rows_c56 n) σ8 else (xc (fX12_keepsRow r7 σ8) fun σ10 => fX12_rows_c78 (fX12_rows_c56 n) σ10))))
theorem fX12_rows_c56_s (n : Nat) (a2 : Int32) (σ : xSt) : fX12_rows_c56 (n + 1) a2 σ = ((if a2 = 0 then some σ else (xc2 (fX12_priceOfRow σ) fun r7 σ8 => (if (σ8 0 19) ≤ r7 then fX12_rows_c78 (fX12_rows_c56 n) σ8 else (xc (fX12_keepsRow r7 σ8) fun σ10 => fX12_rows_c78 (fX12_rows_c56 n) σ10)))) : Option xSt) := rfl
def fX12_rows_c7 : Nat → Int32 → Int32 → xSt → Option xSt
  | 0 => fun _ _ _ => none
  | n + 1 => fun a1 a2 σ => (if 6 ≤ a2 then (xp σ 0 19 2000000000 fun σ2 => fX12_rows_c56 xFU 1 σ2) else (if ((a1 >>> (a2 &&& 31)) &&& 1) = 1 then (xs σ 11 8 (σ 0 18) a2 fun σ4 => (xp σ4 0 18 ((σ4 0 18) + 1) fun σ5 => (xl (a2 + 1) fun v6 => fX12_rows_c7 n a1 v6 σ5))) else (xl (a2 + 1) fun v3 => fX12_rows_c7 n a1 v3 σ)))
theorem fX12_rows_c7_s (n : Nat) (a1 : Int32) (a2 : Int32) (σ : xSt) : fX12_rows_c7 (n + 1) a1 a2 σ = ((if 6 ≤ a2 then (xp σ 0 19 2000000000 fun σ2 => fX12_rows_c56 xFU 1 σ2) else (if ((a1 >>> (a2 &&& 31)) &&& 1) = 1 then (xs σ 11 8 (σ 0 18) a2 fun σ4 => (xp σ4 0 18 ((σ4 0 18) + 1) fun σ5 => (xl (a2 + 1) fun v6 => fX12_rows_c7 n a1 v6 σ5))) else (xl (a2 + 1) fun v3 => fX12_rows_c7 n a1 v3 σ))) : Option xSt) := rfl
def fX12_rows (p0 : Int32) (σ : xSt) : Option xSt := (xp σ 0 18 0 fun σ1 => fX12_rows_c7 xFU p0 0 σ1)
abbrev rmX12_rows : Room := { frames := 2, cells := 0, slots := 0, locals := 47 }
set_option maxRecDepth 100000 in
set_option maxHeartbeats 4000000 in
theorem mX12_rows {l : Launch} {E : xE} (hE : E.sh = shM) (p0 : Int32) (σ : xSt) (o1 : xSt) (hf : fX12_rows p0 σ = some o1) : xMv l yX12_rows wsX12_rows rmX12_rows E [.ref (E.a 0), .int p0] σ o1 := by
  unfold fX12_rows at hf
  refine xMv_of (cc := cX12_rows) (maxL := 4) (ret := none) (by decide) rfl (Nat.le_of_ble_eq_true rfl) ?_
  intro p e s m args below meth c A ls ⟨hx, hb, hr, hml, hown, hts, hlk⟩ hA hG hw hl
  have hown : s.vm.findClass RX12 = some m.cls := hown
  have hl : lv_has ls 4 [(0, .ref (E.a 0)), (1, .int p0)] := hl
  have hk203 := hts (.fieldLink RX12 203 "OvenRoundModel" "many" "I") (by decide +kernel)
  have hiX12 : ∀ w ∈ wsX120, w ∈ wsX12_rows := by decide +kernel
  have hk212 := hts (.fieldLink RX12 212 "OvenRoundModel" "bestEnd" "I") (by decide +kernel)
  have hk40 := hts (.fieldLink RX12 40 "OvenRoundModel" "row" "[I") (by decide +kernel)
  have h56 : ∀ (n : Nat) (a2 : Int32) (σ : xSt) (H : Heap) (locs : List Loc) (ls : Array Slot), xw E A s.heap s σ H locs → lv_has ls 4 [(0, .ref (E.a 0)), (2, .int a2)] → fX12_rows_c56 n a2 σ = some o1 → W p l e rmX12_rows s m args below meth c H locs 0 0 (MQ below (xQv E A o1) args s 0 0 A) (F0 m 56 ls []) := by
    intro n56
    induction n56 with
    | zero => intro a2 σ H locs ls hw hl hf; exact nomatch hf
    | succ n56 ih56 =>
      have h78 : ∀ (σ : xSt) (H : Heap) (locs : List Loc) (ls : Array Slot), xw E A s.heap s σ H locs → lv_has ls 4 [(0, .ref (E.a 0))] → fX12_rows_c78 (fX12_rows_c56 n56) σ = some o1 → W p l e rmX12_rows s m args below meth c H locs 0 0 (MQ below (xQv E A o1) args s 0 0 A) (F0 m 78 ls []) := by
        intro σ H locs ls hw hl hf
        unfold fX12_rows_c78 at hf
        refine lv_aload_n hx hb dX12_rows_78 rfl (lv_at hl 0 rfl) ?_
        obtain ⟨r11, σ12, hcl, hf⟩ := xc2_f hf
        refine x_calli (va_runV (As := []) (rest := []) ⟨hx, hb, hml, hown, hts⟩ (mX12_nextRow hE σ r11 σ12 hcl H.size) (cwV 0 hts gX12_rows_X12_nextRow rfl rfl rfl (by decide +kernel) ⟨Nat.le_of_ble_eq_true rfl, Nat.le_of_ble_eq_true rfl⟩) (x_preV _ hw hA hG (cM0 hE) rfl) rfl rfl hl.1 rfl (lv_room (Nat.le_of_ble_eq_true rfl)) dX12_rows_79 ⟨Nat.le_of_ble_eq_true rfl, Nat.le_of_ble_eq_true rfl⟩) hw hA (fun H locs hw => ?_)
        clear hcl
        refine lv_istore_n (lv' := [(2, .int r11), (0, .ref (E.a 0))]) hx hb dX12_rows_82 rfl hl (by decide) rfl (fun ls hl => ?_)
        refine lv_goto (tgt := 56) hx hb dX12_rows_83 (by decide) ?_
        exact ih56 r11 σ12 _ _ _ hw (lv_sub hl [1, 0] rfl) hf
      intro a2 σ H locs ls hw hl hf
      rw [fX12_rows_c56_s] at hf
      refine lv_iload_n hx hb dX12_rows_56 rfl (lv_at hl 1 rfl) ?_
      refine lv_if_eq (tgt := 86) hx hb dX12_rows_57 (by decide) (fun c57 => ?_) (fun c57 => ?_)
      · replace hf := xif_pos c57 hf
        exact x_vret hx hb hr hlk hw hf dX12_rows_86
      · replace hf := xif_neg c57 hf
        refine lv_aload_n hx hb dX12_rows_60 rfl (lv_at hl 0 rfl) ?_
        obtain ⟨r7, σ8, hcl, hf⟩ := xc2_f hf
        refine x_calli (va_runV (As := []) (rest := []) ⟨hx, hb, hml, hown, hts⟩ (mX12_priceOfRow hE σ r7 σ8 hcl H.size) (cwV 0 hts gX12_rows_X12_priceOfRow rfl rfl rfl (by decide +kernel) ⟨Nat.le_of_ble_eq_true rfl, Nat.le_of_ble_eq_true rfl⟩) (x_preV _ hw hA hG (cM0 hE) rfl) rfl rfl hl.1 rfl (lv_room (Nat.le_of_ble_eq_true rfl)) dX12_rows_61 ⟨Nat.le_of_ble_eq_true rfl, Nat.le_of_ble_eq_true rfl⟩) hw hA (fun H locs hw => ?_)
        clear hcl
        refine lv_istore_n (lv' := [(3, .int r7), (0, .ref (E.a 0)), (2, .int a2)]) hx hb dX12_rows_64 rfl hl (by decide) rfl (fun ls hl => ?_)
        refine lv_iload_n hx hb dX12_rows_65 rfl (lv_at hl 0 rfl) ?_
        refine lv_aload_n hx hb dX12_rows_66 rfl (lv_at hl 1 rfl) ?_
        refine x_geti hx hb hw (cM0 hE) (own := RX12) (ref := RX12) (C := RX12) (T := TX12) (N := 20) hts hiX12 hown rfl 19 (by decide) hk212 (fun _ h9 => h9) rfl dX12_rows_67 ?_
        refine lv_icmp_ge (tgt := 78) hx hb dX12_rows_70 (by decide) (fun c70 => ?_) (fun c70 => ?_)
        · replace hf := xif_pos c70 hf
          exact h78  σ8 _ _ _ hw (lv_sub hl [1] rfl) hf
        · replace hf := xif_neg c70 hf
          refine lv_aload_n hx hb dX12_rows_73 rfl (lv_at hl 1 rfl) ?_
          refine lv_iload_n hx hb dX12_rows_74 rfl (lv_at hl 0 rfl) ?_
          obtain ⟨σ10, hcl, hf⟩ := xc_e hf
          refine x_callv (va_runV (As := [.int r7]) (rest := []) ⟨hx, hb, hml, hown, hts⟩ (mX12_keepsRow hE r7 σ8 σ10 hcl H.size) (cwV 1 hts gX12_rows_X12_keepsRow rfl rfl rfl (by decide +kernel) ⟨Nat.le_of_ble_eq_true rfl, Nat.le_of_ble_eq_true rfl⟩) (x_preV _ hw hA hG (cM0 hE) rfl) rfl rfl hl.1 rfl (lv_room (Nat.le_of_ble_eq_true rfl)) dX12_rows_75 ⟨Nat.le_of_ble_eq_true rfl, Nat.le_of_ble_eq_true rfl⟩) hw hA (fun H locs hw => ?_)
          clear hcl
          exact h78  σ10 _ _ _ hw (lv_sub hl [1] rfl) hf
  have h7 : ∀ (n : Nat) (a1 : Int32) (a2 : Int32) (σ : xSt) (H : Heap) (locs : List Loc) (ls : Array Slot), xw E A s.heap s σ H locs → lv_has ls 4 [(0, .ref (E.a 0)), (1, .int a1), (2, .int a2)] → fX12_rows_c7 n a1 a2 σ = some o1 → W p l e rmX12_rows s m args below meth c H locs 0 0 (MQ below (xQv E A o1) args s 0 0 A) (F0 m 7 ls []) := by
    intro n7
    induction n7 with
    | zero => intro a1 a2 σ H locs ls hw hl hf; exact nomatch hf
    | succ n7 ih7 =>
      intro a1 a2 σ H locs ls hw hl hf
      rw [fX12_rows_c7_s] at hf
      refine lv_iload_n hx hb dX12_rows_7 rfl (lv_at hl 2 rfl) ?_
      refine lv_bipush (v := 6) hx hb dX12_rows_8 (by decide) ?_
      refine lv_icmp_ge (tgt := 48) hx hb dX12_rows_10 (by decide) (fun c10 => ?_) (fun c10 => ?_)
      · replace hf := xif_pos c10 hf
        refine lv_aload_n hx hb dX12_rows_48 rfl (lv_at hl 0 rfl) ?_
        refine lv_ldc hx hb hown (hts (.constant RX12 125 (2000000000)) (by decide +kernel)) dX12_rows_49 ?_
        refine x_puti hx hb hw (cM0 hE) (own := RX12) (ref := RX12) (C := RX12) (T := TX12) (N := 20) hts hiX12 tyX12 tyX12_ok nmX12 hown rfl 19 (by decide) hk212 (fun _ h9 => h9) rfl (by decide +kernel) rfl dX12_rows_51 (fun σ2 H locs ex hw => ?_)
        replace hf := xp_f hf σ2 ex
        clear ex
        refine lv_iconst (v := 1) hx hb dX12_rows_54 (by decide) ?_
        refine lv_istore_n (lv' := [(2, .int 1), (0, .ref (E.a 0)), (1, .int a1)]) hx hb dX12_rows_55 rfl hl (by decide) rfl (fun ls hl => ?_)
        exact h56 xFU 1 σ2 _ _ _ hw (lv_sub hl [1, 0] rfl) hf
      · replace hf := xif_neg c10 hf
        refine lv_iload_n hx hb dX12_rows_13 rfl (lv_at hl 1 rfl) ?_
        refine lv_iload_n hx hb dX12_rows_14 rfl (lv_at hl 2 rfl) ?_
        refine lv_ishr hx hb dX12_rows_15 ?_
        refine lv_iconst (v := 1) hx hb dX12_rows_16 (by decide) ?_
        refine lv_iand hx hb dX12_rows_17 ?_
        refine lv_iconst (v := 1) hx hb dX12_rows_18 (by decide) ?_
        refine lv_icmp_ne (tgt := 42) hx hb dX12_rows_19 (by decide) (fun c19 => ?_) (fun c19 => ?_)
        · replace hf := xif_neg c19 hf
          obtain ⟨v3, ex⟩ : ∃ y : Int32, y = (a2 + 1) := ⟨_, rfl⟩
          replace hf := xl_f hf v3 ex
          refine lv_iinc (v := v3) (lv' := [(2, .int v3), (0, .ref (E.a 0)), (1, .int a1)]) hx hb dX12_rows_42 hl (k := 2) rfl (by rw [ex]; rfl) (by decide) rfl (fun ls hl => ?_)
          clear ex
          refine lv_goto (tgt := 7) hx hb dX12_rows_45 (by decide) ?_
          exact ih7 a1 v3 σ _ _ _ hw (lv_sub hl [1, 2, 0] rfl) hf
        · replace hf := xif_pos c19 hf
          refine lv_aload_n hx hb dX12_rows_22 rfl (lv_at hl 0 rfl) ?_
          refine x_getr hx hb hw (cM0 hE) (own := RX12) (ref := RX12) (C := RX12) (T := TX12) (N := 20) hts hiX12 hown rfl 16 (by decide) hk40 (fun _ h9 => h9) rfl dX12_rows_23 ?_
          refine lv_aload_n hx hb dX12_rows_26 rfl (lv_at hl 0 rfl) ?_
          refine x_geti hx hb hw (cM0 hE) (own := RX12) (ref := RX12) (C := RX12) (T := TX12) (N := 20) hts hiX12 hown rfl 18 (by decide) hk203 (fun _ h9 => h9) rfl dX12_rows_27 ?_
          refine lv_iload_n hx hb dX12_rows_30 rfl (lv_at hl 2 rfl) ?_
          obtain ⟨hin, hf⟩ := xs_f hf
          refine x_iast hx hb hw (cM11 hE) hin dX12_rows_31 (fun σ4 H locs ex hw => ?_)
          replace hf := hf σ4 ex
          clear ex hin
          refine lv_aload_n hx hb dX12_rows_32 rfl (lv_at hl 0 rfl) ?_
          refine lv_dup hx hb dX12_rows_33 rfl ?_
          refine x_geti hx hb hw (cM0 hE) (own := RX12) (ref := RX12) (C := RX12) (T := TX12) (N := 20) hts hiX12 hown rfl 18 (by decide) hk203 (fun _ h9 => h9) rfl dX12_rows_34 ?_
          refine lv_iconst (v := 1) hx hb dX12_rows_37 (by decide) ?_
          refine lv_iadd hx hb dX12_rows_38 ?_
          refine x_puti hx hb hw (cM0 hE) (own := RX12) (ref := RX12) (C := RX12) (T := TX12) (N := 20) hts hiX12 tyX12 tyX12_ok nmX12 hown rfl 18 (by decide) hk203 (fun _ h9 => h9) rfl (by decide +kernel) rfl dX12_rows_39 (fun σ5 H locs ex hw => ?_)
          replace hf := xp_f hf σ5 ex
          clear ex
          obtain ⟨v6, ex⟩ : ∃ y : Int32, y = (a2 + 1) := ⟨_, rfl⟩
          replace hf := xl_f hf v6 ex
          refine lv_iinc (v := v6) (lv' := [(2, .int v6), (0, .ref (E.a 0)), (1, .int a1)]) hx hb dX12_rows_42 hl (k := 2) rfl (by rw [ex]; rfl) (by decide) rfl (fun ls hl => ?_)
          clear ex
          refine lv_goto (tgt := 7) hx hb dX12_rows_45 (by decide) ?_
          exact ih7 a1 v6 σ5 _ _ _ hw (lv_sub hl [1, 2, 0] rfl) hf
  refine lv_aload_n hx hb dX12_rows_0 rfl (lv_at hl 0 rfl) ?_
  refine lv_iconst (v := 0) hx hb dX12_rows_1 (by decide) ?_
  refine x_puti hx hb hw (cM0 hE) (own := RX12) (ref := RX12) (C := RX12) (T := TX12) (N := 20) hts hiX12 tyX12 tyX12_ok nmX12 hown rfl 18 (by decide) hk203 (fun _ h9 => h9) rfl (by decide +kernel) rfl dX12_rows_2 (fun σ1 H locs ex hw => ?_)
  replace hf := xp_f hf σ1 ex
  clear ex
  refine lv_iconst (v := 0) hx hb dX12_rows_5 (by decide) ?_
  refine lv_istore_n (lv' := [(2, .int 0), (0, .ref (E.a 0)), (1, .int p0)]) hx hb dX12_rows_6 rfl hl (by decide) rfl (fun ls hl => ?_)
  exact h7 xFU p0 0 σ1 _ _ _ hw (lv_sub hl [1, 2, 0] rfl) hf

def fX12_isSet (p0 : Int32) (σ : xSt) : Option (Int32 × xSt) := (xr σ 1 680 5 fun v1 => (xc2 (fX12_in p0 0 ((1 <<< (v1 &&& 31)) - 1) σ) fun r2 σ3 => xb r2 (some (r2, σ3))))
abbrev rmX12_isSet : Room := { frames := 1, cells := 0, slots := 0, locals := 22 }
set_option maxRecDepth 100000 in
set_option maxHeartbeats 4000000 in
theorem mX12_isSet {l : Launch} {E : xE} (hE : E.sh = shM) (p0 : Int32) (σ : xSt) (o1 : Int32) (o2 : xSt) (hf : fX12_isSet p0 σ = some (o1, o2)) : xMi l yX12_isSet wsX12_isSet rmX12_isSet E [.ref (E.a 0), .int p0] σ o1 o2 := by
  unfold fX12_isSet at hf
  refine xMi_of (cc := cX12_isSet) (maxL := 2) (ret := (some .boolean)) (by decide) rfl (Nat.le_of_ble_eq_true rfl) ?_
  intro p e s m args below meth c A ls ⟨hx, hb, hr, hml, hown, hts, hlk⟩ hA hG hw hl
  have hown : s.vm.findClass RX12 = some m.cls := hown
  have hl : lv_has ls 2 [(0, .ref (E.a 0)), (1, .int p0)] := hl
  have hk9 := hts (.fieldLink RX12 9 "OvenRoundModel" "w" "[I") (by decide +kernel)
  have hiX12 : ∀ w ∈ wsX120, w ∈ wsX12_isSet := by decide +kernel
  refine lv_iload_n hx hb dX12_isSet_0 rfl (lv_at hl 1 rfl) ?_
  refine lv_iconst (v := 0) hx hb dX12_isSet_1 (by decide) ?_
  refine lv_iconst (v := 1) hx hb dX12_isSet_2 (by decide) ?_
  refine lv_aload_n hx hb dX12_isSet_3 rfl (lv_at hl 0 rfl) ?_
  refine x_getr hx hb hw (cM0 hE) (own := RX12) (ref := RX12) (C := RX12) (T := TX12) (N := 20) hts hiX12 hown rfl 1 (by decide) hk9 (fun _ h9 => h9) rfl dX12_isSet_4 ?_
  refine lv_iconst (v := 5) hx hb dX12_isSet_7 (by decide) ?_
  obtain ⟨hin, hf⟩ := xr_f hf
  refine x_iald hx hb hw (cM1 hE) hin dX12_isSet_8 ?_
  refine lv_topi (fun v1 ex => ?_)
  replace hf := hf v1 ex
  clear ex hin
  refine lv_ishl hx hb dX12_isSet_9 ?_
  refine lv_iconst (v := 1) hx hb dX12_isSet_10 (by decide) ?_
  refine lv_isub hx hb dX12_isSet_11 ?_
  obtain ⟨r2, σ3, hcl, hf⟩ := xc2_f hf
  refine x_calli (va_runS (As := [.int p0, .int 0, .int ((1 <<< (v1 &&& 31)) - 1)]) (rest := []) ⟨hx, hb, hml, hown, hts⟩ (mX12_in hE p0 0 ((1 <<< (v1 &&& 31)) - 1) σ r2 σ3 hcl s.heap.size) (va_cwS 3 hts gX12_isSet_X12_in rfl rfl rfl (by decide +kernel) ⟨Nat.le_of_ble_eq_true rfl, Nat.le_of_ble_eq_true rfl⟩) (x_preS _ hw hA hG) rfl rfl hl.1 rfl (lv_room (Nat.le_of_ble_eq_true rfl)) dX12_isSet_12 ⟨Nat.le_of_ble_eq_true rfl, Nat.le_of_ble_eq_true rfl⟩) hw hA (fun H locs hw => ?_)
  clear hcl
  exact x_zret hx hb hr hlk hw hf dX12_isSet_15

def fX12_cleaning (p0 : Int32) (σ : xSt) : Option (Int32 × xSt) := (xc2 (fX12_isSet p0 σ) fun r1 σ2 => (xc2 (fX12_can r1 1 σ2) fun r3 σ4 => (if r3 = 0 then some (0, σ4) else (xc (fX12_rows p0 σ4) fun σ6 => some ((σ6 0 19), σ6)))))
abbrev rmX12_cleaning : Room := { frames := 3, cells := 0, slots := 0, locals := 70 }
set_option maxRecDepth 100000 in
set_option maxHeartbeats 4000000 in
theorem mX12_cleaning {l : Launch} {E : xE} (hE : E.sh = shM) (p0 : Int32) (σ : xSt) (o1 : Int32) (o2 : xSt) (hf : fX12_cleaning p0 σ = some (o1, o2)) : xMi l yX12_cleaning wsX12_cleaning rmX12_cleaning E [.ref (E.a 0), .int p0] σ o1 o2 := by
  unfold fX12_cleaning at hf
  refine xMi_of (cc := cX12_cleaning) (maxL := 2) (ret := (some .int)) (by decide) rfl (Nat.le_of_ble_eq_true rfl) ?_
  intro p e s m args below meth c A ls ⟨hx, hb, hr, hml, hown, hts, hlk⟩ hA hG hw hl
  have hown : s.vm.findClass RX12 = some m.cls := hown
  have hl : lv_has ls 2 [(0, .ref (E.a 0)), (1, .int p0)] := hl
  have hk212 := hts (.fieldLink RX12 212 "OvenRoundModel" "bestEnd" "I") (by decide +kernel)
  have hiX12 : ∀ w ∈ wsX120, w ∈ wsX12_cleaning := by decide +kernel
  refine lv_aload_n hx hb dX12_cleaning_0 rfl (lv_at hl 0 rfl) ?_
  refine lv_aload_n hx hb dX12_cleaning_1 rfl (lv_at hl 0 rfl) ?_
  refine lv_iload_n hx hb dX12_cleaning_2 rfl (lv_at hl 1 rfl) ?_
  obtain ⟨r1, σ2, hcl, hf⟩ := xc2_f hf
  refine x_calli (va_runV (As := [.int p0]) (rest := [.ref (E.a 0)]) ⟨hx, hb, hml, hown, hts⟩ (mX12_isSet hE p0 σ r1 σ2 hcl s.heap.size) (cwV 1 hts gX12_cleaning_X12_isSet rfl rfl rfl (by decide +kernel) ⟨Nat.le_of_ble_eq_true rfl, Nat.le_of_ble_eq_true rfl⟩) (x_preV _ hw hA hG (cM0 hE) rfl) rfl rfl hl.1 rfl (lv_room (Nat.le_of_ble_eq_true rfl)) dX12_cleaning_3 ⟨Nat.le_of_ble_eq_true rfl, Nat.le_of_ble_eq_true rfl⟩) hw hA (fun H locs hw => ?_)
  clear hcl
  refine lv_iconst (v := 1) hx hb dX12_cleaning_6 (by decide) ?_
  obtain ⟨r3, σ4, hcl, hf⟩ := xc2_f hf
  refine x_calli (va_runV (As := [.int r1, .int 1]) (rest := []) ⟨hx, hb, hml, hown, hts⟩ (mX12_can hE r1 1 σ2 r3 σ4 hcl H.size) (cwV 2 hts gX12_cleaning_X12_can rfl rfl rfl (by decide +kernel) ⟨Nat.le_of_ble_eq_true rfl, Nat.le_of_ble_eq_true rfl⟩) (x_preV _ hw hA hG (cM0 hE) rfl) rfl rfl hl.1 rfl (lv_room (Nat.le_of_ble_eq_true rfl)) dX12_cleaning_7 ⟨Nat.le_of_ble_eq_true rfl, Nat.le_of_ble_eq_true rfl⟩) hw hA (fun H locs hw => ?_)
  clear hcl
  refine lv_if_ne (tgt := 15) hx hb dX12_cleaning_10 (by decide) (fun c10 => ?_) (fun c10 => ?_)
  · replace hf := xif_neg c10 hf
    refine lv_aload_n hx hb dX12_cleaning_15 rfl (lv_at hl 0 rfl) ?_
    refine lv_iload_n hx hb dX12_cleaning_16 rfl (lv_at hl 1 rfl) ?_
    obtain ⟨σ6, hcl, hf⟩ := xc_e hf
    refine x_callv (va_runV (As := [.int p0]) (rest := []) ⟨hx, hb, hml, hown, hts⟩ (mX12_rows hE p0 σ4 σ6 hcl H.size) (cwV 1 hts gX12_cleaning_X12_rows rfl rfl rfl (by decide +kernel) ⟨Nat.le_of_ble_eq_true rfl, Nat.le_of_ble_eq_true rfl⟩) (x_preV _ hw hA hG (cM0 hE) rfl) rfl rfl hl.1 rfl (lv_room (Nat.le_of_ble_eq_true rfl)) dX12_cleaning_17 ⟨Nat.le_of_ble_eq_true rfl, Nat.le_of_ble_eq_true rfl⟩) hw hA (fun H locs hw => ?_)
    clear hcl
    refine lv_aload_n hx hb dX12_cleaning_20 rfl (lv_at hl 0 rfl) ?_
    refine x_geti hx hb hw (cM0 hE) (own := RX12) (ref := RX12) (C := RX12) (T := TX12) (N := 20) hts hiX12 hown rfl 19 (by decide) hk212 (fun _ h9 => h9) rfl dX12_cleaning_21 ?_
    exact x_iret hx hb hr hlk hw hf dX12_cleaning_24
  · replace hf := xif_pos c10 hf
    refine lv_iconst (v := 0) hx hb dX12_cleaning_13 (by decide) ?_
    exact x_iret hx hb hr hlk hw hf dX12_cleaning_14
