def fX12_bounds_c235 (a1 : Int32) (t0 : Int32) (σ : xSt) : Option xSt := (if t0 = 0 then (xs σ 6 20 a1 (-1) fun σ27 => some σ27) else (xr σ 6 20 a1 fun v28 => (xs σ 6 20 a1 v28 fun σ29 => some σ29)))
def fX12_bounds_c234 (a1 : Int32) (σ : xSt) : Option xSt := fX12_bounds_c235 a1 0 σ
def fX12_bounds_c230 (a1 : Int32) (σ : xSt) : Option xSt := fX12_bounds_c235 a1 1 σ
def fX12_bounds_c180 (a1 : Int32) (a4 : Int32) (σ : xSt) : Option xSt := (xc2 (fX12_isAtHand a1 σ) fun r20 σ21 => (if r20 = 0 then fX12_bounds_c234 a1 σ21 else (xr σ21 7 20 a1 fun v22 => (xr σ21 6 20 a1 fun v23 => (if v22 < v23 then fX12_bounds_c234 a1 σ21 else (xr σ21 1 680 (163 + a1) fun v24 => (if v24 = 1 then fX12_bounds_c230 a1 σ21 else (if 0 < a4 then fX12_bounds_c230 a1 σ21 else (xc2 (fX12_isRipe a1 σ21) fun r25 σ26 => (if r25 = 0 then fX12_bounds_c234 a1 σ26 else fX12_bounds_c230 a1 σ26))))))))))
def fX12_bounds_c179 (a1 : Int32) (a4 : Int32) (t0 : Int32) (t1 : Int32) (σ : xSt) : Option xSt := (xs σ 7 20 t1 t0 fun σ19 => fX12_bounds_c180 a1 a4 σ19)
def fX12_bounds_c134 (a1 : Int32) (a2 : Int32) (a3 : Int32) (a4 : Int32) (t0 : Int32) (t1 : Int32) (t2 : Int32) (σ : xSt) : Option xSt := (xs σ 6 20 t2 (t1 + t0) fun σ15 => (xr σ15 1 680 (31 + a2) fun v16 => (if a3 ≤ v16 then (xr σ15 1 680 0 fun v17 => (xr σ15 1 680 (31 + a2) fun v18 => (xnz a4 (fX12_bounds_c179 a1 a4 (v17 + ((v18 - a3) / a4)) a1 σ15)))) else fX12_bounds_c179 a1 a4 (-1) a1 σ15)))
def fX12_bounds (p0 : Int32) (σ : xSt) : Option xSt := (xr σ 1 680 (103 + p0) fun v1 => (xr σ 1 680 (143 + p0) fun v2 => (xc2 (fX12_gain σ) fun r3 σ4 => (xr σ4 1 680 0 fun v5 => (xs σ4 6 20 p0 v5 fun σ6 => (xs σ6 7 20 p0 2000000000 fun σ7 => (xr σ7 1 680 (163 + p0) fun v8 => (if v8 = 1 then (xr σ7 1 680 (183 + p0) fun v12 => (xr σ7 1 680 (49 + v1) fun v13 => (xs σ7 7 20 p0 (v12 + v13) fun σ14 => fX12_bounds_c180 p0 r3 σ14))) else (if r3 ≤ 0 then fX12_bounds_c180 p0 r3 σ7 else (xr σ7 1 680 (25 + v1) fun v9 => (xl (v9 - v2) fun v10 => (xr σ7 6 20 p0 fun v11 => (if v10 ≤ 0 then fX12_bounds_c134 p0 v1 v2 r3 0 v11 p0 σ7 else (xnz r3 (fX12_bounds_c134 p0 v1 v2 r3 (((v10 + r3) - 1) / r3) v11 p0 σ7)))))))))))))))
abbrev rmX12_bounds : Room := { frames := 2, cells := 0, slots := 0, locals := 44 }
set_option maxRecDepth 100000 in
set_option maxHeartbeats 4000000 in
theorem mX12_bounds {l : Launch} {E : xE} (hE : E.sh = shM) (p0 : Int32) (σ : xSt) (o1 : xSt) (hf : fX12_bounds p0 σ = some o1) : xMv l yX12_bounds wsX12_bounds rmX12_bounds E [.ref (E.a 0), .int p0] σ o1 := by
  unfold fX12_bounds at hf
  refine xMv_of (cc := cX12_bounds) (maxL := 6) (ret := none) (by decide) rfl (Nat.le_of_ble_eq_true rfl) ?_
  intro p e s m args below meth c A ls ⟨hx, hb, hr, hml, hown, hts, hlk⟩ hA hG hw hl
  have hown : s.vm.findClass RX12 = some m.cls := hown
  have hl : lv_has ls 6 [(0, .ref (E.a 0)), (1, .int p0)] := hl
  have hk9 := hts (.fieldLink RX12 9 "OvenRoundModel" "w" "[I") (by decide +kernel)
  have hiX12 : ∀ w ∈ wsX120, w ∈ wsX12_bounds := by decide +kernel
  have hk25 := hts (.fieldLink RX12 25 "OvenRoundModel" "first" "[I") (by decide +kernel)
  have hk28 := hts (.fieldLink RX12 28 "OvenRoundModel" "last" "[I") (by decide +kernel)
  have h235 : ∀ (a1 : Int32) (t0 : Int32) (σ : xSt) (H : Heap) (locs : List Loc) (ls : Array Slot), xw E A s.heap s σ H locs → lv_has ls 6 [(0, .ref (E.a 0)), (1, .int a1)] → fX12_bounds_c235 a1 t0 σ = some o1 → W p l e rmX12_bounds s m args below meth c H locs 0 0 (MQ below (xQv E A o1) args s 0 0 A) (F0 m 235 ls [.int t0]) := by
    intro a1 t0 σ H locs ls hw hl hf
    unfold fX12_bounds_c235 at hf
    refine lv_istore (lv' := [(5, .int t0), (0, .ref (E.a 0)), (1, .int a1)]) hx hb dX12_bounds_235 hl (by decide) rfl (fun ls hl => ?_)
    refine lv_aload_n hx hb dX12_bounds_237 rfl (lv_at hl 1 rfl) ?_
    refine x_getr hx hb hw (cM0 hE) (own := RX12) (ref := RX12) (C := RX12) (T := TX12) (N := 20) hts hiX12 hown rfl 9 (by decide) hk25 (fun _ h9 => h9) rfl dX12_bounds_238 ?_
    refine lv_iload_n hx hb dX12_bounds_241 rfl (lv_at hl 2 rfl) ?_
    refine lv_iload hx hb dX12_bounds_242 (lv_at hl 0 rfl) ?_
    refine lv_if_eq (tgt := 256) hx hb dX12_bounds_244 (by decide) (fun c244 => ?_) (fun c244 => ?_)
    · replace hf := xif_pos c244 hf
      refine lv_iconst (v := (-1)) hx hb dX12_bounds_256 (by decide) ?_
      obtain ⟨hin, hf⟩ := xs_f hf
      refine x_iast hx hb hw (cM6 hE) hin dX12_bounds_257 (fun σ27 H locs ex hw => ?_)
      replace hf := hf σ27 ex
      clear ex hin
      exact x_vret hx hb hr hlk hw hf dX12_bounds_258
    · replace hf := xif_neg c244 hf
      refine lv_aload_n hx hb dX12_bounds_247 rfl (lv_at hl 1 rfl) ?_
      refine x_getr hx hb hw (cM0 hE) (own := RX12) (ref := RX12) (C := RX12) (T := TX12) (N := 20) hts hiX12 hown rfl 9 (by decide) hk25 (fun _ h9 => h9) rfl dX12_bounds_248 ?_
      refine lv_iload_n hx hb dX12_bounds_251 rfl (lv_at hl 2 rfl) ?_
      obtain ⟨hin, hf⟩ := xr_f hf
      refine x_iald hx hb hw (cM6 hE) hin dX12_bounds_252 ?_
      refine lv_topi (fun v28 ex => ?_)
      replace hf := hf v28 ex
      clear ex hin
      refine lv_goto (tgt := 257) hx hb dX12_bounds_253 (by decide) ?_
      obtain ⟨hin, hf⟩ := xs_f hf
      refine x_iast hx hb hw (cM6 hE) hin dX12_bounds_257 (fun σ29 H locs ex hw => ?_)
      replace hf := hf σ29 ex
      clear ex hin
      exact x_vret hx hb hr hlk hw hf dX12_bounds_258
  have h234 : ∀ (a1 : Int32) (σ : xSt) (H : Heap) (locs : List Loc) (ls : Array Slot), xw E A s.heap s σ H locs → lv_has ls 6 [(0, .ref (E.a 0)), (1, .int a1)] → fX12_bounds_c234 a1 σ = some o1 → W p l e rmX12_bounds s m args below meth c H locs 0 0 (MQ below (xQv E A o1) args s 0 0 A) (F0 m 234 ls []) := by
    intro a1 σ H locs ls hw hl hf
    unfold fX12_bounds_c234 at hf
    refine lv_iconst (v := 0) hx hb dX12_bounds_234 (by decide) ?_
    exact h235 a1 0 σ _ _ _ hw (lv_sub hl [0, 1] rfl) hf
  have h230 : ∀ (a1 : Int32) (σ : xSt) (H : Heap) (locs : List Loc) (ls : Array Slot), xw E A s.heap s σ H locs → lv_has ls 6 [(0, .ref (E.a 0)), (1, .int a1)] → fX12_bounds_c230 a1 σ = some o1 → W p l e rmX12_bounds s m args below meth c H locs 0 0 (MQ below (xQv E A o1) args s 0 0 A) (F0 m 230 ls []) := by
    intro a1 σ H locs ls hw hl hf
    unfold fX12_bounds_c230 at hf
    refine lv_iconst (v := 1) hx hb dX12_bounds_230 (by decide) ?_
    refine lv_goto (tgt := 235) hx hb dX12_bounds_231 (by decide) ?_
    exact h235 a1 1 σ _ _ _ hw (lv_sub hl [0, 1] rfl) hf
  have h180 : ∀ (a1 : Int32) (a4 : Int32) (σ : xSt) (H : Heap) (locs : List Loc) (ls : Array Slot), xw E A s.heap s σ H locs → lv_has ls 6 [(0, .ref (E.a 0)), (1, .int a1), (4, .int a4)] → fX12_bounds_c180 a1 a4 σ = some o1 → W p l e rmX12_bounds s m args below meth c H locs 0 0 (MQ below (xQv E A o1) args s 0 0 A) (F0 m 180 ls []) := by
    intro a1 a4 σ H locs ls hw hl hf
    unfold fX12_bounds_c180 at hf
    refine lv_aload_n hx hb dX12_bounds_180 rfl (lv_at hl 0 rfl) ?_
    refine lv_iload_n hx hb dX12_bounds_181 rfl (lv_at hl 1 rfl) ?_
    obtain ⟨r20, σ21, hcl, hf⟩ := xc2_f hf
    refine x_calli (va_runV (As := [.int a1]) (rest := []) ⟨hx, hb, hml, hown, hts⟩ (mX12_isAtHand hE a1 σ r20 σ21 hcl H.size) (cwV 1 hts gX12_bounds_X12_isAtHand rfl rfl rfl (by decide +kernel) ⟨Nat.le_of_ble_eq_true rfl, Nat.le_of_ble_eq_true rfl⟩) (x_preV _ hw hA hG (cM0 hE) rfl) rfl rfl hl.1 rfl (lv_room (Nat.le_of_ble_eq_true rfl)) dX12_bounds_182 ⟨Nat.le_of_ble_eq_true rfl, Nat.le_of_ble_eq_true rfl⟩) hw hA (fun H locs hw => ?_)
    clear hcl
    refine lv_if_eq (tgt := 234) hx hb dX12_bounds_185 (by decide) (fun c185 => ?_) (fun c185 => ?_)
    · replace hf := xif_pos c185 hf
      exact h234 a1 σ21 _ _ _ hw (lv_sub hl [0, 1] rfl) hf
    · replace hf := xif_neg c185 hf
      refine lv_aload_n hx hb dX12_bounds_188 rfl (lv_at hl 0 rfl) ?_
      refine x_getr hx hb hw (cM0 hE) (own := RX12) (ref := RX12) (C := RX12) (T := TX12) (N := 20) hts hiX12 hown rfl 10 (by decide) hk28 (fun _ h9 => h9) rfl dX12_bounds_189 ?_
      refine lv_iload_n hx hb dX12_bounds_192 rfl (lv_at hl 1 rfl) ?_
      obtain ⟨hin, hf⟩ := xr_f hf
      refine x_iald hx hb hw (cM7 hE) hin dX12_bounds_193 ?_
      refine lv_topi (fun v22 ex => ?_)
      replace hf := hf v22 ex
      clear ex hin
      refine lv_aload_n hx hb dX12_bounds_194 rfl (lv_at hl 0 rfl) ?_
      refine x_getr hx hb hw (cM0 hE) (own := RX12) (ref := RX12) (C := RX12) (T := TX12) (N := 20) hts hiX12 hown rfl 9 (by decide) hk25 (fun _ h9 => h9) rfl dX12_bounds_195 ?_
      refine lv_iload_n hx hb dX12_bounds_198 rfl (lv_at hl 1 rfl) ?_
      obtain ⟨hin, hf⟩ := xr_f hf
      refine x_iald hx hb hw (cM6 hE) hin dX12_bounds_199 ?_
      refine lv_topi (fun v23 ex => ?_)
      replace hf := hf v23 ex
      clear ex hin
      refine lv_icmp_lt (tgt := 234) hx hb dX12_bounds_200 (by decide) (fun c200 => ?_) (fun c200 => ?_)
      · replace hf := xif_pos c200 hf
        exact h234 a1 σ21 _ _ _ hw (lv_sub hl [0, 1] rfl) hf
      · replace hf := xif_neg c200 hf
        refine lv_aload_n hx hb dX12_bounds_203 rfl (lv_at hl 0 rfl) ?_
        refine x_getr hx hb hw (cM0 hE) (own := RX12) (ref := RX12) (C := RX12) (T := TX12) (N := 20) hts hiX12 hown rfl 1 (by decide) hk9 (fun _ h9 => h9) rfl dX12_bounds_204 ?_
        refine lv_sipush (v := 163) hx hb dX12_bounds_207 (by decide) ?_
        refine lv_iload_n hx hb dX12_bounds_210 rfl (lv_at hl 1 rfl) ?_
        refine lv_iadd hx hb dX12_bounds_211 ?_
        obtain ⟨hin, hf⟩ := xr_f hf
        refine x_iald hx hb hw (cM1 hE) hin dX12_bounds_212 ?_
        refine lv_topi (fun v24 ex => ?_)
        replace hf := hf v24 ex
        clear ex hin
        refine lv_iconst (v := 1) hx hb dX12_bounds_213 (by decide) ?_
        refine lv_icmp_eq (tgt := 230) hx hb dX12_bounds_214 (by decide) (fun c214 => ?_) (fun c214 => ?_)
        · replace hf := xif_pos c214 hf
          exact h230 a1 σ21 _ _ _ hw (lv_sub hl [0, 1] rfl) hf
        · replace hf := xif_neg c214 hf
          refine lv_iload hx hb dX12_bounds_217 (lv_at hl 2 rfl) ?_
          refine lv_if_gt (tgt := 230) hx hb dX12_bounds_219 (by decide) (fun c219 => ?_) (fun c219 => ?_)
          · replace hf := xif_pos c219 hf
            exact h230 a1 σ21 _ _ _ hw (lv_sub hl [0, 1] rfl) hf
          · replace hf := xif_neg c219 hf
            refine lv_aload_n hx hb dX12_bounds_222 rfl (lv_at hl 0 rfl) ?_
            refine lv_iload_n hx hb dX12_bounds_223 rfl (lv_at hl 1 rfl) ?_
            obtain ⟨r25, σ26, hcl, hf⟩ := xc2_f hf
            refine x_calli (va_runV (As := [.int a1]) (rest := []) ⟨hx, hb, hml, hown, hts⟩ (mX12_isRipe hE a1 σ21 r25 σ26 hcl H.size) (cwV 1 hts gX12_bounds_X12_isRipe rfl rfl rfl (by decide +kernel) ⟨Nat.le_of_ble_eq_true rfl, Nat.le_of_ble_eq_true rfl⟩) (x_preV _ hw hA hG (cM0 hE) rfl) rfl rfl hl.1 rfl (lv_room (Nat.le_of_ble_eq_true rfl)) dX12_bounds_224 ⟨Nat.le_of_ble_eq_true rfl, Nat.le_of_ble_eq_true rfl⟩) hw hA (fun H locs hw => ?_)
            clear hcl
            refine lv_if_eq (tgt := 234) hx hb dX12_bounds_227 (by decide) (fun c227 => ?_) (fun c227 => ?_)
            · replace hf := xif_pos c227 hf
              exact h234 a1 σ26 _ _ _ hw (lv_sub hl [0, 1] rfl) hf
            · replace hf := xif_neg c227 hf
              exact h230 a1 σ26 _ _ _ hw (lv_sub hl [0, 1] rfl) hf
  have h179 : ∀ (a1 : Int32) (a4 : Int32) (t0 : Int32) (t1 : Int32) (σ : xSt) (H : Heap) (locs : List Loc) (ls : Array Slot), xw E A s.heap s σ H locs → lv_has ls 6 [(0, .ref (E.a 0)), (1, .int a1), (4, .int a4)] → fX12_bounds_c179 a1 a4 t0 t1 σ = some o1 → W p l e rmX12_bounds s m args below meth c H locs 0 0 (MQ below (xQv E A o1) args s 0 0 A) (F0 m 179 ls [.int t0, .int t1, .ref (E.a 7)]) := by
    intro a1 a4 t0 t1 σ H locs ls hw hl hf
    unfold fX12_bounds_c179 at hf
    obtain ⟨hin, hf⟩ := xs_f hf
    refine x_iast hx hb hw (cM7 hE) hin dX12_bounds_179 (fun σ19 H locs ex hw => ?_)
    replace hf := hf σ19 ex
    clear ex hin
    exact h180 a1 a4 σ19 _ _ _ hw (lv_sub hl [0, 1, 2] rfl) hf
  have h134 : ∀ (a1 : Int32) (a2 : Int32) (a3 : Int32) (a4 : Int32) (t0 : Int32) (t1 : Int32) (t2 : Int32) (σ : xSt) (H : Heap) (locs : List Loc) (ls : Array Slot), xw E A s.heap s σ H locs → lv_has ls 6 [(0, .ref (E.a 0)), (1, .int a1), (2, .int a2), (3, .int a3), (4, .int a4)] → fX12_bounds_c134 a1 a2 a3 a4 t0 t1 t2 σ = some o1 → W p l e rmX12_bounds s m args below meth c H locs 0 0 (MQ below (xQv E A o1) args s 0 0 A) (F0 m 134 ls [.int t0, .int t1, .int t2, .ref (E.a 6)]) := by
    intro a1 a2 a3 a4 t0 t1 t2 σ H locs ls hw hl hf
    unfold fX12_bounds_c134 at hf
    refine lv_iadd hx hb dX12_bounds_134 ?_
    obtain ⟨hin, hf⟩ := xs_f hf
    refine x_iast hx hb hw (cM6 hE) hin dX12_bounds_135 (fun σ15 H locs ex hw => ?_)
    replace hf := hf σ15 ex
    clear ex hin
    refine lv_aload_n hx hb dX12_bounds_136 rfl (lv_at hl 0 rfl) ?_
    refine x_getr hx hb hw (cM0 hE) (own := RX12) (ref := RX12) (C := RX12) (T := TX12) (N := 20) hts hiX12 hown rfl 10 (by decide) hk28 (fun _ h9 => h9) rfl dX12_bounds_137 ?_
    refine lv_iload_n hx hb dX12_bounds_140 rfl (lv_at hl 1 rfl) ?_
    refine lv_iload_n hx hb dX12_bounds_141 rfl (lv_at hl 3 rfl) ?_
    refine lv_aload_n hx hb dX12_bounds_142 rfl (lv_at hl 0 rfl) ?_
    refine x_getr hx hb hw (cM0 hE) (own := RX12) (ref := RX12) (C := RX12) (T := TX12) (N := 20) hts hiX12 hown rfl 1 (by decide) hk9 (fun _ h9 => h9) rfl dX12_bounds_143 ?_
    refine lv_bipush (v := 31) hx hb dX12_bounds_146 (by decide) ?_
    refine lv_iload_n hx hb dX12_bounds_148 rfl (lv_at hl 2 rfl) ?_
    refine lv_iadd hx hb dX12_bounds_149 ?_
    obtain ⟨hin, hf⟩ := xr_f hf
    refine x_iald hx hb hw (cM1 hE) hin dX12_bounds_150 ?_
    refine lv_topi (fun v16 ex => ?_)
    replace hf := hf v16 ex
    clear ex hin
    refine lv_icmp_le (tgt := 158) hx hb dX12_bounds_151 (by decide) (fun c151 => ?_) (fun c151 => ?_)
    · replace hf := xif_pos c151 hf
      refine lv_aload_n hx hb dX12_bounds_158 rfl (lv_at hl 0 rfl) ?_
      refine x_getr hx hb hw (cM0 hE) (own := RX12) (ref := RX12) (C := RX12) (T := TX12) (N := 20) hts hiX12 hown rfl 1 (by decide) hk9 (fun _ h9 => h9) rfl dX12_bounds_159 ?_
      refine lv_iconst (v := 0) hx hb dX12_bounds_162 (by decide) ?_
      obtain ⟨hin, hf⟩ := xr_f hf
      refine x_iald hx hb hw (cM1 hE) hin dX12_bounds_163 ?_
      refine lv_topi (fun v17 ex => ?_)
      replace hf := hf v17 ex
      clear ex hin
      refine lv_aload_n hx hb dX12_bounds_164 rfl (lv_at hl 0 rfl) ?_
      refine x_getr hx hb hw (cM0 hE) (own := RX12) (ref := RX12) (C := RX12) (T := TX12) (N := 20) hts hiX12 hown rfl 1 (by decide) hk9 (fun _ h9 => h9) rfl dX12_bounds_165 ?_
      refine lv_bipush (v := 31) hx hb dX12_bounds_168 (by decide) ?_
      refine lv_iload_n hx hb dX12_bounds_170 rfl (lv_at hl 2 rfl) ?_
      refine lv_iadd hx hb dX12_bounds_171 ?_
      obtain ⟨hin, hf⟩ := xr_f hf
      refine x_iald hx hb hw (cM1 hE) hin dX12_bounds_172 ?_
      refine lv_topi (fun v18 ex => ?_)
      replace hf := hf v18 ex
      clear ex hin
      refine lv_iload_n hx hb dX12_bounds_173 rfl (lv_at hl 3 rfl) ?_
      refine lv_isub hx hb dX12_bounds_174 ?_
      refine lv_iload hx hb dX12_bounds_175 (lv_at hl 4 rfl) ?_
      obtain ⟨hne, hf⟩ := xnz_e hf
      refine lv_idiv hx hb dX12_bounds_177 hne ?_
      refine lv_iadd hx hb dX12_bounds_178 ?_
      exact h179 a1 a4 (v17 + ((v18 - a3) / a4)) a1 σ15 _ _ _ hw (lv_sub hl [0, 1, 4] rfl) hf
    · replace hf := xif_neg c151 hf
      refine lv_iconst (v := (-1)) hx hb dX12_bounds_154 (by decide) ?_
      refine lv_goto (tgt := 179) hx hb dX12_bounds_155 (by decide) ?_
      exact h179 a1 a4 (-1) a1 σ15 _ _ _ hw (lv_sub hl [0, 1, 4] rfl) hf
  refine lv_aload_n hx hb dX12_bounds_0 rfl (lv_at hl 0 rfl) ?_
  refine x_getr hx hb hw (cM0 hE) (own := RX12) (ref := RX12) (C := RX12) (T := TX12) (N := 20) hts hiX12 hown rfl 1 (by decide) hk9 (fun _ h9 => h9) rfl dX12_bounds_1 ?_
  refine lv_bipush (v := 103) hx hb dX12_bounds_4 (by decide) ?_
  refine lv_iload_n hx hb dX12_bounds_6 rfl (lv_at hl 1 rfl) ?_
  refine lv_iadd hx hb dX12_bounds_7 ?_
  obtain ⟨hin, hf⟩ := xr_f hf
  refine x_iald hx hb hw (cM1 hE) hin dX12_bounds_8 ?_
  refine lv_topi (fun v1 ex => ?_)
  replace hf := hf v1 ex
  clear ex hin
  refine lv_istore_n (lv' := [(2, .int v1), (0, .ref (E.a 0)), (1, .int p0)]) hx hb dX12_bounds_9 rfl hl (by decide) rfl (fun ls hl => ?_)
  refine lv_aload_n hx hb dX12_bounds_10 rfl (lv_at hl 1 rfl) ?_
  refine x_getr hx hb hw (cM0 hE) (own := RX12) (ref := RX12) (C := RX12) (T := TX12) (N := 20) hts hiX12 hown rfl 1 (by decide) hk9 (fun _ h9 => h9) rfl dX12_bounds_11 ?_
  refine lv_sipush (v := 143) hx hb dX12_bounds_14 (by decide) ?_
  refine lv_iload_n hx hb dX12_bounds_17 rfl (lv_at hl 2 rfl) ?_
  refine lv_iadd hx hb dX12_bounds_18 ?_
  obtain ⟨hin, hf⟩ := xr_f hf
  refine x_iald hx hb hw (cM1 hE) hin dX12_bounds_19 ?_
  refine lv_topi (fun v2 ex => ?_)
  replace hf := hf v2 ex
  clear ex hin
  refine lv_istore_n (lv' := [(3, .int v2), (2, .int v1), (0, .ref (E.a 0)), (1, .int p0)]) hx hb dX12_bounds_20 rfl hl (by decide) rfl (fun ls hl => ?_)
  refine lv_aload_n hx hb dX12_bounds_21 rfl (lv_at hl 2 rfl) ?_
  obtain ⟨r3, σ4, hcl, hf⟩ := xc2_f hf
  refine x_calli (va_runV (As := []) (rest := []) ⟨hx, hb, hml, hown, hts⟩ (mX12_gain hE σ r3 σ4 hcl s.heap.size) (cwV 0 hts gX12_bounds_X12_gain rfl rfl rfl (by decide +kernel) ⟨Nat.le_of_ble_eq_true rfl, Nat.le_of_ble_eq_true rfl⟩) (x_preV _ hw hA hG (cM0 hE) rfl) rfl rfl hl.1 rfl (lv_room (Nat.le_of_ble_eq_true rfl)) dX12_bounds_22 ⟨Nat.le_of_ble_eq_true rfl, Nat.le_of_ble_eq_true rfl⟩) hw hA (fun H locs hw => ?_)
  clear hcl
  refine lv_istore (lv' := [(4, .int r3), (3, .int v2), (2, .int v1), (0, .ref (E.a 0)), (1, .int p0)]) hx hb dX12_bounds_25 hl (by decide) rfl (fun ls hl => ?_)
  refine lv_aload_n hx hb dX12_bounds_27 rfl (lv_at hl 3 rfl) ?_
  refine x_getr hx hb hw (cM0 hE) (own := RX12) (ref := RX12) (C := RX12) (T := TX12) (N := 20) hts hiX12 hown rfl 9 (by decide) hk25 (fun _ h9 => h9) rfl dX12_bounds_28 ?_
  refine lv_iload_n hx hb dX12_bounds_31 rfl (lv_at hl 4 rfl) ?_
  refine lv_aload_n hx hb dX12_bounds_32 rfl (lv_at hl 3 rfl) ?_
  refine x_getr hx hb hw (cM0 hE) (own := RX12) (ref := RX12) (C := RX12) (T := TX12) (N := 20) hts hiX12 hown rfl 1 (by decide) hk9 (fun _ h9 => h9) rfl dX12_bounds_33 ?_
  refine lv_iconst (v := 0) hx hb dX12_bounds_36 (by decide) ?_
  obtain ⟨hin, hf⟩ := xr_f hf
  refine x_iald hx hb hw (cM1 hE) hin dX12_bounds_37 ?_
  refine lv_topi (fun v5 ex => ?_)
  replace hf := hf v5 ex
  clear ex hin
  obtain ⟨hin, hf⟩ := xs_f hf
  refine x_iast hx hb hw (cM6 hE) hin dX12_bounds_38 (fun σ6 H locs ex hw => ?_)
  replace hf := hf σ6 ex
  clear ex hin
  refine lv_aload_n hx hb dX12_bounds_39 rfl (lv_at hl 3 rfl) ?_
  refine x_getr hx hb hw (cM0 hE) (own := RX12) (ref := RX12) (C := RX12) (T := TX12) (N := 20) hts hiX12 hown rfl 10 (by decide) hk28 (fun _ h9 => h9) rfl dX12_bounds_40 ?_
  refine lv_iload_n hx hb dX12_bounds_43 rfl (lv_at hl 4 rfl) ?_
  refine lv_ldc hx hb hown (hts (.constant RX12 125 (2000000000)) (by decide +kernel)) dX12_bounds_44 ?_
  obtain ⟨hin, hf⟩ := xs_f hf
  refine x_iast hx hb hw (cM7 hE) hin dX12_bounds_46 (fun σ7 H locs ex hw => ?_)
  replace hf := hf σ7 ex
  clear ex hin
  refine lv_aload_n hx hb dX12_bounds_47 rfl (lv_at hl 3 rfl) ?_
  refine x_getr hx hb hw (cM0 hE) (own := RX12) (ref := RX12) (C := RX12) (T := TX12) (N := 20) hts hiX12 hown rfl 1 (by decide) hk9 (fun _ h9 => h9) rfl dX12_bounds_48 ?_
  refine lv_sipush (v := 163) hx hb dX12_bounds_51 (by decide) ?_
  refine lv_iload_n hx hb dX12_bounds_54 rfl (lv_at hl 4 rfl) ?_
  refine lv_iadd hx hb dX12_bounds_55 ?_
  obtain ⟨hin, hf⟩ := xr_f hf
  refine x_iald hx hb hw (cM1 hE) hin dX12_bounds_56 ?_
  refine lv_topi (fun v8 ex => ?_)
  replace hf := hf v8 ex
  clear ex hin
  refine lv_iconst (v := 1) hx hb dX12_bounds_57 (by decide) ?_
  refine lv_icmp_ne (tgt := 90) hx hb dX12_bounds_58 (by decide) (fun c58 => ?_) (fun c58 => ?_)
  · replace hf := xif_neg c58 hf
    refine lv_iload hx hb dX12_bounds_90 (lv_at hl 0 rfl) ?_
    refine lv_if_le (tgt := 180) hx hb dX12_bounds_92 (by decide) (fun c92 => ?_) (fun c92 => ?_)
    · replace hf := xif_pos c92 hf
      exact h180 p0 r3 σ7 _ _ _ hw (lv_sub hl [3, 4, 0] rfl) hf
    · replace hf := xif_neg c92 hf
      refine lv_aload_n hx hb dX12_bounds_95 rfl (lv_at hl 3 rfl) ?_
      refine x_getr hx hb hw (cM0 hE) (own := RX12) (ref := RX12) (C := RX12) (T := TX12) (N := 20) hts hiX12 hown rfl 1 (by decide) hk9 (fun _ h9 => h9) rfl dX12_bounds_96 ?_
      refine lv_bipush (v := 25) hx hb dX12_bounds_99 (by decide) ?_
      refine lv_iload_n hx hb dX12_bounds_101 rfl (lv_at hl 2 rfl) ?_
      refine lv_iadd hx hb dX12_bounds_102 ?_
      obtain ⟨hin, hf⟩ := xr_f hf
      refine x_iald hx hb hw (cM1 hE) hin dX12_bounds_103 ?_
      refine lv_topi (fun v9 ex => ?_)
      replace hf := hf v9 ex
      clear ex hin
      refine lv_iload_n hx hb dX12_bounds_104 rfl (lv_at hl 1 rfl) ?_
      refine lv_isub hx hb dX12_bounds_105 ?_
      refine lv_topi (fun v10 ex => ?_)
      replace hf := xl_f hf v10 ex
      clear ex
      refine lv_istore (lv' := [(5, .int v10), (4, .int r3), (3, .int v2), (2, .int v1), (0, .ref (E.a 0)), (1, .int p0)]) hx hb dX12_bounds_106 hl (by decide) rfl (fun ls hl => ?_)
      refine lv_aload_n hx hb dX12_bounds_108 rfl (lv_at hl 4 rfl) ?_
      refine x_getr hx hb hw (cM0 hE) (own := RX12) (ref := RX12) (C := RX12) (T := TX12) (N := 20) hts hiX12 hown rfl 9 (by decide) hk25 (fun _ h9 => h9) rfl dX12_bounds_109 ?_
      refine lv_iload_n hx hb dX12_bounds_112 rfl (lv_at hl 5 rfl) ?_
      refine lv_dup2_11 hx hb dX12_bounds_113 rfl rfl ?_
      obtain ⟨hin, hf⟩ := xr_f hf
      refine x_iald hx hb hw (cM6 hE) hin dX12_bounds_114 ?_
      refine lv_topi (fun v11 ex => ?_)
      replace hf := hf v11 ex
      clear ex hin
      refine lv_iload hx hb dX12_bounds_115 (lv_at hl 0 rfl) ?_
      refine lv_if_le (tgt := 133) hx hb dX12_bounds_117 (by decide) (fun c117 => ?_) (fun c117 => ?_)
      · replace hf := xif_pos c117 hf
        refine lv_iconst (v := 0) hx hb dX12_bounds_133 (by decide) ?_
        exact h134 p0 v1 v2 r3 0 v11 p0 σ7 _ _ _ hw (lv_sub hl [4, 5, 3, 2, 1] rfl) hf
      · replace hf := xif_neg c117 hf
        refine lv_iload hx hb dX12_bounds_120 (lv_at hl 0 rfl) ?_
        refine lv_iload hx hb dX12_bounds_122 (lv_at hl 1 rfl) ?_
        refine lv_iadd hx hb dX12_bounds_124 ?_
        refine lv_iconst (v := 1) hx hb dX12_bounds_125 (by decide) ?_
        refine lv_isub hx hb dX12_bounds_126 ?_
        refine lv_iload hx hb dX12_bounds_127 (lv_at hl 1 rfl) ?_
        obtain ⟨hne, hf⟩ := xnz_e hf
        refine lv_idiv hx hb dX12_bounds_129 hne ?_
        refine lv_goto (tgt := 134) hx hb dX12_bounds_130 (by decide) ?_
        exact h134 p0 v1 v2 r3 (((v10 + r3) - 1) / r3) v11 p0 σ7 _ _ _ hw (lv_sub hl [4, 5, 3, 2, 1] rfl) hf
  · replace hf := xif_pos c58 hf
    refine lv_aload_n hx hb dX12_bounds_61 rfl (lv_at hl 3 rfl) ?_
    refine x_getr hx hb hw (cM0 hE) (own := RX12) (ref := RX12) (C := RX12) (T := TX12) (N := 20) hts hiX12 hown rfl 10 (by decide) hk28 (fun _ h9 => h9) rfl dX12_bounds_62 ?_
    refine lv_iload_n hx hb dX12_bounds_65 rfl (lv_at hl 4 rfl) ?_
    refine lv_aload_n hx hb dX12_bounds_66 rfl (lv_at hl 3 rfl) ?_
    refine x_getr hx hb hw (cM0 hE) (own := RX12) (ref := RX12) (C := RX12) (T := TX12) (N := 20) hts hiX12 hown rfl 1 (by decide) hk9 (fun _ h9 => h9) rfl dX12_bounds_67 ?_
    refine lv_sipush (v := 183) hx hb dX12_bounds_70 (by decide) ?_
    refine lv_iload_n hx hb dX12_bounds_73 rfl (lv_at hl 4 rfl) ?_
    refine lv_iadd hx hb dX12_bounds_74 ?_
    obtain ⟨hin, hf⟩ := xr_f hf
    refine x_iald hx hb hw (cM1 hE) hin dX12_bounds_75 ?_
    refine lv_topi (fun v12 ex => ?_)
    replace hf := hf v12 ex
    clear ex hin
    refine lv_aload_n hx hb dX12_bounds_76 rfl (lv_at hl 3 rfl) ?_
    refine x_getr hx hb hw (cM0 hE) (own := RX12) (ref := RX12) (C := RX12) (T := TX12) (N := 20) hts hiX12 hown rfl 1 (by decide) hk9 (fun _ h9 => h9) rfl dX12_bounds_77 ?_
    refine lv_bipush (v := 49) hx hb dX12_bounds_80 (by decide) ?_
    refine lv_iload_n hx hb dX12_bounds_82 rfl (lv_at hl 2 rfl) ?_
    refine lv_iadd hx hb dX12_bounds_83 ?_
    obtain ⟨hin, hf⟩ := xr_f hf
    refine x_iald hx hb hw (cM1 hE) hin dX12_bounds_84 ?_
    refine lv_topi (fun v13 ex => ?_)
    replace hf := hf v13 ex
    clear ex hin
    refine lv_iadd hx hb dX12_bounds_85 ?_
    obtain ⟨hin, hf⟩ := xs_f hf
    refine x_iast hx hb hw (cM7 hE) hin dX12_bounds_86 (fun σ14 H locs ex hw => ?_)
    replace hf := hf σ14 ex
    clear ex hin
    refine lv_goto (tgt := 180) hx hb dX12_bounds_87 (by decide) ?_
    exact h180 p0 r3 σ14 _ _ _ hw (lv_sub hl [3, 4, 0] rfl) hf

def fX12_nextOf_c59 (k4 : (Int32 → Int32 → Int32 → xSt → Option (Int32 × xSt))) (a1 : Int32) (a2 : Int32) (a3 : Int32) (t0 : Int32) (σ : xSt) : Option (Int32 × xSt) := (if t0 = 0 then (xl (a3 + 1) fun v8 => k4 a1 a2 v8 σ) else (if a2 = (-1) then (xl (a3 + 1) fun v9 => k4 a1 a3 v9 σ) else (xr σ 7 20 a3 fun v10 => (xr σ 7 20 a2 fun v11 => (if v11 ≤ v10 then (xl (a3 + 1) fun v12 => k4 a1 a2 v12 σ) else (xl (a3 + 1) fun v13 => k4 a1 a3 v13 σ))))))
def fX12_nextOf_c58 (k4 : (Int32 → Int32 → Int32 → xSt → Option (Int32 × xSt))) (a1 : Int32) (a2 : Int32) (a3 : Int32) (σ : xSt) : Option (Int32 × xSt) := fX12_nextOf_c59 k4 a1 a2 a3 0 σ
def fX12_nextOf_c4 : Nat → Int32 → Int32 → Int32 → xSt → Option (Int32 × xSt)
  | 0 => fun _ _ _ _ => none
  | n + 1 => fun a1 a2 a3 σ => (xr σ 1 680 6 fun v1 => (if v1 ≤ a3 then some (a2, σ) else (xr σ 6 20 a3 fun v2 => (if v2 = (-1) then fX12_nextOf_c58 (fX12_nextOf_c4 n) a1 a2 a3 σ else (xr σ 8 20 a3 fun v3 => (if v3 = (-1) then (xr σ 6 20 a3 fun v4 => (xr σ 7 20 a3 fun v5 => (xc2 (fX12_in a1 v4 v5 σ) fun r6 σ7 => (if r6 = 0 then fX12_nextOf_c58 (fX12_nextOf_c4 n) a1 a2 a3 σ7 else fX12_nextOf_c59 (fX12_nextOf_c4 n) a1 a2 a3 1 σ7)))) else fX12_nextOf_c58 (fX12_nextOf_c4 n) a1 a2 a3 σ))))))
theorem fX12_nextOf_c4_s (n : Nat) (a1 : Int32) (a2 : Int32) (a3 : Int32) (σ : xSt) : fX12_nextOf_c4 (n + 1) a1 a2 a3 σ = ((xr σ 1 680 6 fun v1 => (if v1 ≤ a3 then some (a2, σ) else (xr σ 6 20 a3 fun v2 => (if v2 = (-1) then fX12_nextOf_c58 (fX12_nextOf_c4 n) a1 a2 a3 σ else (xr σ 8 20 a3 fun v3 => (if v3 = (-1) then (xr σ 6 20 a3 fun v4 => (xr σ 7 20 a3 fun v5 => (xc2 (fX12_in a1 v4 v5 σ) fun r6 σ7 => (if r6 = 0 then fX12_nextOf_c58 (fX12_nextOf_c4 n) a1 a2 a3 σ7 else fX12_nextOf_c59 (fX12_nextOf_c4 n) a1 a2 a3 1 σ7)))) else fX12_nextOf_c58 (fX12_nextOf_c4 n) a1 a2 a3 σ)))))) : Option (Int32 × xSt)) := rfl
def fX12_nextOf (p0 : Int32) (σ : xSt) : Option (Int32 × xSt) := fX12_nextOf_c4 xFU p0 (-1) 0 σ
abbrev rmX12_nextOf : Room := { frames := 1, cells := 0, slots := 0, locals := 22 }
set_option maxRecDepth 100000 in
set_option maxHeartbeats 4000000 in
theorem mX12_nextOf {l : Launch} {E : xE} (hE : E.sh = shM) (p0 : Int32) (σ : xSt) (o1 : Int32) (o2 : xSt) (hf : fX12_nextOf p0 σ = some (o1, o2)) : xMi l yX12_nextOf wsX12_nextOf rmX12_nextOf E [.ref (E.a 0), .int p0] σ o1 o2 := by
  unfold fX12_nextOf at hf
  refine xMi_of (cc := cX12_nextOf) (maxL := 5) (ret := (some .int)) (by decide) rfl (Nat.le_of_ble_eq_true rfl) ?_
  intro p e s m args below meth c A ls ⟨hx, hb, hr, hml, hown, hts, hlk⟩ hA hG hw hl
  have hown : s.vm.findClass RX12 = some m.cls := hown
  have hl : lv_has ls 5 [(0, .ref (E.a 0)), (1, .int p0)] := hl
  have hk9 := hts (.fieldLink RX12 9 "OvenRoundModel" "w" "[I") (by decide +kernel)
  have hiX12 : ∀ w ∈ wsX120, w ∈ wsX12_nextOf := by decide +kernel
  have hk25 := hts (.fieldLink RX12 25 "OvenRoundModel" "first" "[I") (by decide +kernel)
  have hk31 := hts (.fieldLink RX12 31 "OvenRoundModel" "round" "[I") (by decide +kernel)
  have hk28 := hts (.fieldLink RX12 28 "OvenRoundModel" "last" "[I") (by decide +kernel)
  have h4 : ∀ (n : Nat) (a1 : Int32) (a2 : Int32) (a3 : Int32) (σ : xSt) (H : Heap) (locs : List Loc) (ls : Array Slot), xw E A s.heap s σ H locs → lv_has ls 5 [(0, .ref (E.a 0)), (1, .int a1), (2, .int a2), (3, .int a3)] → fX12_nextOf_c4 n a1 a2 a3 σ = some (o1, o2) → W p l e rmX12_nextOf s m args below meth c H locs 0 0 (MQ below (xQi E A o1 o2) args s 0 0 A) (F0 m 4 ls []) := by
    intro n4
    induction n4 with
    | zero => intro a1 a2 a3 σ H locs ls hw hl hf; exact nomatch hf
    | succ n4 ih4 =>
      have h59 : ∀ (a1 : Int32) (a2 : Int32) (a3 : Int32) (t0 : Int32) (σ : xSt) (H : Heap) (locs : List Loc) (ls : Array Slot), xw E A s.heap s σ H locs → lv_has ls 5 [(0, .ref (E.a 0)), (1, .int a1), (2, .int a2), (3, .int a3)] → fX12_nextOf_c59 (fX12_nextOf_c4 n4) a1 a2 a3 t0 σ = some (o1, o2) → W p l e rmX12_nextOf s m args below meth c H locs 0 0 (MQ below (xQi E A o1 o2) args s 0 0 A) (F0 m 59 ls [.int t0]) := by
        intro a1 a2 a3 t0 σ H locs ls hw hl hf
        unfold fX12_nextOf_c59 at hf
        refine lv_istore (lv' := [(4, .int t0), (0, .ref (E.a 0)), (1, .int a1), (2, .int a2), (3, .int a3)]) hx hb dX12_nextOf_59 hl (by decide) rfl (fun ls hl => ?_)
        refine lv_iload hx hb dX12_nextOf_61 (lv_at hl 0 rfl) ?_
        refine lv_if_eq (tgt := 88) hx hb dX12_nextOf_63 (by decide) (fun c63 => ?_) (fun c63 => ?_)
        · replace hf := xif_pos c63 hf
          obtain ⟨v8, ex⟩ : ∃ y : Int32, y = (a3 + 1) := ⟨_, rfl⟩
          replace hf := xl_f hf v8 ex
          refine lv_iinc (v := v8) (lv' := [(3, .int v8), (4, .int t0), (0, .ref (E.a 0)), (1, .int a1), (2, .int a2)]) hx hb dX12_nextOf_88 hl (k := 4) rfl (by rw [ex]; rfl) (by decide) rfl (fun ls hl => ?_)
          clear ex
          refine lv_goto (tgt := 4) hx hb dX12_nextOf_91 (by decide) ?_
          exact ih4 a1 a2 v8 σ _ _ _ hw (lv_sub hl [2, 3, 4, 0] rfl) hf
        · replace hf := xif_neg c63 hf
          refine lv_iload_n hx hb dX12_nextOf_66 rfl (lv_at hl 3 rfl) ?_
          refine lv_iconst (v := (-1)) hx hb dX12_nextOf_67 (by decide) ?_
          refine lv_icmp_eq (tgt := 86) hx hb dX12_nextOf_68 (by decide) (fun c68 => ?_) (fun c68 => ?_)
          · replace hf := xif_pos c68 hf
            refine lv_iload_n hx hb dX12_nextOf_86 rfl (lv_at hl 4 rfl) ?_
            refine lv_istore_n (lv' := [(2, .int a3), (4, .int t0), (0, .ref (E.a 0)), (1, .int a1), (3, .int a3)]) hx hb dX12_nextOf_87 rfl hl (by decide) rfl (fun ls hl => ?_)
            obtain ⟨v9, ex⟩ : ∃ y : Int32, y = (a3 + 1) := ⟨_, rfl⟩
            replace hf := xl_f hf v9 ex
            refine lv_iinc (v := v9) (lv' := [(3, .int v9), (2, .int a3), (4, .int t0), (0, .ref (E.a 0)), (1, .int a1)]) hx hb dX12_nextOf_88 hl (k := 4) rfl (by rw [ex]; rfl) (by decide) rfl (fun ls hl => ?_)
            clear ex
            refine lv_goto (tgt := 4) hx hb dX12_nextOf_91 (by decide) ?_
            exact ih4 a1 a3 v9 σ _ _ _ hw (lv_sub hl [3, 4, 1, 0] rfl) hf
          · replace hf := xif_neg c68 hf
            refine lv_aload_n hx hb dX12_nextOf_71 rfl (lv_at hl 1 rfl) ?_
            refine x_getr hx hb hw (cM0 hE) (own := RX12) (ref := RX12) (C := RX12) (T := TX12) (N := 20) hts hiX12 hown rfl 10 (by decide) hk28 (fun _ h9 => h9) rfl dX12_nextOf_72 ?_
            refine lv_iload_n hx hb dX12_nextOf_75 rfl (lv_at hl 4 rfl) ?_
            obtain ⟨hin, hf⟩ := xr_f hf
            refine x_iald hx hb hw (cM7 hE) hin dX12_nextOf_76 ?_
            refine lv_topi (fun v10 ex => ?_)
            replace hf := hf v10 ex
            clear ex hin
            refine lv_aload_n hx hb dX12_nextOf_77 rfl (lv_at hl 1 rfl) ?_
            refine x_getr hx hb hw (cM0 hE) (own := RX12) (ref := RX12) (C := RX12) (T := TX12) (N := 20) hts hiX12 hown rfl 10 (by decide) hk28 (fun _ h9 => h9) rfl dX12_nextOf_78 ?_
            refine lv_iload_n hx hb dX12_nextOf_81 rfl (lv_at hl 3 rfl) ?_
            obtain ⟨hin, hf⟩ := xr_f hf
            refine x_iald hx hb hw (cM7 hE) hin dX12_nextOf_82 ?_
            refine lv_topi (fun v11 ex => ?_)
            replace hf := hf v11 ex
            clear ex hin
            refine lv_icmp_ge (tgt := 88) hx hb dX12_nextOf_83 (by decide) (fun c83 => ?_) (fun c83 => ?_)
            · replace hf := xif_pos c83 hf
              obtain ⟨v12, ex⟩ : ∃ y : Int32, y = (a3 + 1) := ⟨_, rfl⟩
              replace hf := xl_f hf v12 ex
              refine lv_iinc (v := v12) (lv' := [(3, .int v12), (4, .int t0), (0, .ref (E.a 0)), (1, .int a1), (2, .int a2)]) hx hb dX12_nextOf_88 hl (k := 4) rfl (by rw [ex]; rfl) (by decide) rfl (fun ls hl => ?_)
              clear ex
              refine lv_goto (tgt := 4) hx hb dX12_nextOf_91 (by decide) ?_
              exact ih4 a1 a2 v12 σ _ _ _ hw (lv_sub hl [2, 3, 4, 0] rfl) hf
            · replace hf := xif_neg c83 hf
              refine lv_iload_n hx hb dX12_nextOf_86 rfl (lv_at hl 4 rfl) ?_
              refine lv_istore_n (lv' := [(2, .int a3), (4, .int t0), (0, .ref (E.a 0)), (1, .int a1), (3, .int a3)]) hx hb dX12_nextOf_87 rfl hl (by decide) rfl (fun ls hl => ?_)
              obtain ⟨v13, ex⟩ : ∃ y : Int32, y = (a3 + 1) := ⟨_, rfl⟩
              replace hf := xl_f hf v13 ex
              refine lv_iinc (v := v13) (lv' := [(3, .int v13), (2, .int a3), (4, .int t0), (0, .ref (E.a 0)), (1, .int a1)]) hx hb dX12_nextOf_88 hl (k := 4) rfl (by rw [ex]; rfl) (by decide) rfl (fun ls hl => ?_)
              clear ex
              refine lv_goto (tgt := 4) hx hb dX12_nextOf_91 (by decide) ?_
              exact ih4 a1 a3 v13 σ _ _ _ hw (lv_sub hl [3, 4, 1, 0] rfl) hf
      have h58 : ∀ (a1 : Int32) (a2 : Int32) (a3 : Int32) (σ : xSt) (H : Heap) (locs : List Loc) (ls : Array Slot), xw E A s.heap s σ H locs → lv_has ls 5 [(0, .ref (E.a 0)), (1, .int a1), (2, .int a2), (3, .int a3)] → fX12_nextOf_c58 (fX12_nextOf_c4 n4) a1 a2 a3 σ = some (o1, o2) → W p l e rmX12_nextOf s m args below meth c H locs 0 0 (MQ below (xQi E A o1 o2) args s 0 0 A) (F0 m 58 ls []) := by
        intro a1 a2 a3 σ H locs ls hw hl hf
        unfold fX12_nextOf_c58 at hf
        refine lv_iconst (v := 0) hx hb dX12_nextOf_58 (by decide) ?_
        exact h59 a1 a2 a3 0 σ _ _ _ hw (lv_sub hl [0, 1, 2, 3] rfl) hf
      intro a1 a2 a3 σ H locs ls hw hl hf
      rw [fX12_nextOf_c4_s] at hf
      refine lv_iload_n hx hb dX12_nextOf_4 rfl (lv_at hl 3 rfl) ?_
      refine lv_aload_n hx hb dX12_nextOf_5 rfl (lv_at hl 0 rfl) ?_
      refine x_getr hx hb hw (cM0 hE) (own := RX12) (ref := RX12) (C := RX12) (T := TX12) (N := 20) hts hiX12 hown rfl 1 (by decide) hk9 (fun _ h9 => h9) rfl dX12_nextOf_6 ?_
      refine lv_bipush (v := 6) hx hb dX12_nextOf_9 (by decide) ?_
      obtain ⟨hin, hf⟩ := xr_f hf
      refine x_iald hx hb hw (cM1 hE) hin dX12_nextOf_11 ?_
      refine lv_topi (fun v1 ex => ?_)
      replace hf := hf v1 ex
      clear ex hin
      refine lv_icmp_ge (tgt := 94) hx hb dX12_nextOf_12 (by decide) (fun c12 => ?_) (fun c12 => ?_)
      · replace hf := xif_pos c12 hf
        refine lv_iload_n hx hb dX12_nextOf_94 rfl (lv_at hl 2 rfl) ?_
        exact x_iret hx hb hr hlk hw hf dX12_nextOf_95
      · replace hf := xif_neg c12 hf
        refine lv_aload_n hx hb dX12_nextOf_15 rfl (lv_at hl 0 rfl) ?_
        refine x_getr hx hb hw (cM0 hE) (own := RX12) (ref := RX12) (C := RX12) (T := TX12) (N := 20) hts hiX12 hown rfl 9 (by decide) hk25 (fun _ h9 => h9) rfl dX12_nextOf_16 ?_
        refine lv_iload_n hx hb dX12_nextOf_19 rfl (lv_at hl 3 rfl) ?_
        obtain ⟨hin, hf⟩ := xr_f hf
        refine x_iald hx hb hw (cM6 hE) hin dX12_nextOf_20 ?_
        refine lv_topi (fun v2 ex => ?_)
        replace hf := hf v2 ex
        clear ex hin
        refine lv_iconst (v := (-1)) hx hb dX12_nextOf_21 (by decide) ?_
        refine lv_icmp_eq (tgt := 58) hx hb dX12_nextOf_22 (by decide) (fun c22 => ?_) (fun c22 => ?_)
        · replace hf := xif_pos c22 hf
          exact h58 a1 a2 a3 σ _ _ _ hw (lv_sub hl [0, 1, 2, 3] rfl) hf
        · replace hf := xif_neg c22 hf
          refine lv_aload_n hx hb dX12_nextOf_25 rfl (lv_at hl 0 rfl) ?_
          refine x_getr hx hb hw (cM0 hE) (own := RX12) (ref := RX12) (C := RX12) (T := TX12) (N := 20) hts hiX12 hown rfl 11 (by decide) hk31 (fun _ h9 => h9) rfl dX12_nextOf_26 ?_
          refine lv_iload_n hx hb dX12_nextOf_29 rfl (lv_at hl 3 rfl) ?_
          obtain ⟨hin, hf⟩ := xr_f hf
          refine x_iald hx hb hw (cM8 hE) hin dX12_nextOf_30 ?_
          refine lv_topi (fun v3 ex => ?_)
          replace hf := hf v3 ex
          clear ex hin
          refine lv_iconst (v := (-1)) hx hb dX12_nextOf_31 (by decide) ?_
          refine lv_icmp_ne (tgt := 58) hx hb dX12_nextOf_32 (by decide) (fun c32 => ?_) (fun c32 => ?_)
          · replace hf := xif_neg c32 hf
            exact h58 a1 a2 a3 σ _ _ _ hw (lv_sub hl [0, 1, 2, 3] rfl) hf
          · replace hf := xif_pos c32 hf
            refine lv_iload_n hx hb dX12_nextOf_35 rfl (lv_at hl 1 rfl) ?_
            refine lv_aload_n hx hb dX12_nextOf_36 rfl (lv_at hl 0 rfl) ?_
            refine x_getr hx hb hw (cM0 hE) (own := RX12) (ref := RX12) (C := RX12) (T := TX12) (N := 20) hts hiX12 hown rfl 9 (by decide) hk25 (fun _ h9 => h9) rfl dX12_nextOf_37 ?_
            refine lv_iload_n hx hb dX12_nextOf_40 rfl (lv_at hl 3 rfl) ?_
            obtain ⟨hin, hf⟩ := xr_f hf
            refine x_iald hx hb hw (cM6 hE) hin dX12_nextOf_41 ?_
            refine lv_topi (fun v4 ex => ?_)
            replace hf := hf v4 ex
            clear ex hin
            refine lv_aload_n hx hb dX12_nextOf_42 rfl (lv_at hl 0 rfl) ?_
            refine x_getr hx hb hw (cM0 hE) (own := RX12) (ref := RX12) (C := RX12) (T := TX12) (N := 20) hts hiX12 hown rfl 10 (by decide) hk28 (fun _ h9 => h9) rfl dX12_nextOf_43 ?_
            refine lv_iload_n hx hb dX12_nextOf_46 rfl (lv_at hl 3 rfl) ?_
            obtain ⟨hin, hf⟩ := xr_f hf
            refine x_iald hx hb hw (cM7 hE) hin dX12_nextOf_47 ?_
            refine lv_topi (fun v5 ex => ?_)
            replace hf := hf v5 ex
            clear ex hin
            obtain ⟨r6, σ7, hcl, hf⟩ := xc2_f hf
            refine x_calli (va_runS (As := [.int a1, .int v4, .int v5]) (rest := []) ⟨hx, hb, hml, hown, hts⟩ (mX12_in hE a1 v4 v5 σ r6 σ7 hcl H.size) (va_cwS 3 hts gX12_nextOf_X12_in rfl rfl rfl (by decide +kernel) ⟨Nat.le_of_ble_eq_true rfl, Nat.le_of_ble_eq_true rfl⟩) (x_preS _ hw hA hG) rfl rfl hl.1 rfl (lv_room (Nat.le_of_ble_eq_true rfl)) dX12_nextOf_48 ⟨Nat.le_of_ble_eq_true rfl, Nat.le_of_ble_eq_true rfl⟩) hw hA (fun H locs hw => ?_)
            clear hcl
            refine lv_if_eq (tgt := 58) hx hb dX12_nextOf_51 (by decide) (fun c51 => ?_) (fun c51 => ?_)
            · replace hf := xif_pos c51 hf
              exact h58 a1 a2 a3 σ7 _ _ _ hw (lv_sub hl [0, 1, 2, 3] rfl) hf
            · replace hf := xif_neg c51 hf
              refine lv_iconst (v := 1) hx hb dX12_nextOf_54 (by decide) ?_
              refine lv_goto (tgt := 59) hx hb dX12_nextOf_55 (by decide) ?_
              exact h59 a1 a2 a3 1 σ7 _ _ _ hw (lv_sub hl [0, 1, 2, 3] rfl) hf
  refine lv_iconst (v := (-1)) hx hb dX12_nextOf_0 (by decide) ?_
  refine lv_istore_n (lv' := [(2, .int (-1)), (0, .ref (E.a 0)), (1, .int p0)]) hx hb dX12_nextOf_1 rfl hl (by decide) rfl (fun ls hl => ?_)
  refine lv_iconst (v := 0) hx hb dX12_nextOf_2 (by decide) ?_
  refine lv_istore_n (lv' := [(3, .int 0), (2, .int (-1)), (0, .ref (E.a 0)), (1, .int p0)]) hx hb dX12_nextOf_3 rfl hl (by decide) rfl (fun ls hl => ?_)
  exact h4 xFU p0 (-1) 0 σ _ _ _ hw (lv_sub hl [2, 3, 1, 0] rfl) hf

def fX12_isLeft_c2 : Nat → Int32 → Int32 → xSt → Option (Int32 × xSt)
  | 0 => fun _ _ _ => none
  | n + 1 => fun a1 a2 σ => (xr σ 1 680 6 fun v1 => (if v1 ≤ a2 then some (0, σ) else (xr σ 6 20 a2 fun v2 => (if v2 = (-1) then (xl (a2 + 1) fun v3 => fX12_isLeft_c2 n a1 v3 σ) else (xr σ 8 20 a2 fun v4 => (if v4 = (-1) then (xr σ 7 20 a2 fun v6 => (if v6 < a1 then (xl (a2 + 1) fun v7 => fX12_isLeft_c2 n a1 v7 σ) else some (1, σ))) else (xl (a2 + 1) fun v5 => fX12_isLeft_c2 n a1 v5 σ)))))))
theorem fX12_isLeft_c2_s (n : Nat) (a1 : Int32) (a2 : Int32) (σ : xSt) : fX12_isLeft_c2 (n + 1) a1 a2 σ = ((xr σ 1 680 6 fun v1 => (if v1 ≤ a2 then some (0, σ) else (xr σ 6 20 a2 fun v2 => (if v2 = (-1) then (xl (a2 + 1) fun v3 => fX12_isLeft_c2 n a1 v3 σ) else (xr σ 8 20 a2 fun v4 => (if v4 = (-1) then (xr σ 7 20 a2 fun v6 => (if v6 < a1 then (xl (a2 + 1) fun v7 => fX12_isLeft_c2 n a1 v7 σ) else some (1, σ))) else (xl (a2 + 1) fun v5 => fX12_isLeft_c2 n a1 v5 σ))))))) : Option (Int32 × xSt)) := rfl
def fX12_isLeft (p0 : Int32) (σ : xSt) : Option (Int32 × xSt) := fX12_isLeft_c2 xFU p0 0 σ
abbrev rmX12_isLeft : Room := { frames := 0, cells := 0, slots := 0, locals := 0 }
set_option maxRecDepth 100000 in
set_option maxHeartbeats 4000000 in
theorem mX12_isLeft {l : Launch} {E : xE} (hE : E.sh = shM) (p0 : Int32) (σ : xSt) (o1 : Int32) (o2 : xSt) (hf : fX12_isLeft p0 σ = some (o1, o2)) : xMi l yX12_isLeft wsX12_isLeft rmX12_isLeft E [.ref (E.a 0), .int p0] σ o1 o2 := by
  unfold fX12_isLeft at hf
  refine xMi_of (cc := cX12_isLeft) (maxL := 3) (ret := (some .boolean)) (by decide) rfl (Nat.le_of_ble_eq_true rfl) ?_
  intro p e s m args below meth c A ls ⟨hx, hb, hr, hml, hown, hts, hlk⟩ hA hG hw hl
  have hown : s.vm.findClass RX12 = some m.cls := hown
  have hl : lv_has ls 3 [(0, .ref (E.a 0)), (1, .int p0)] := hl
  have hk9 := hts (.fieldLink RX12 9 "OvenRoundModel" "w" "[I") (by decide +kernel)
  have hiX12 : ∀ w ∈ wsX120, w ∈ wsX12_isLeft := by decide +kernel
  have hk25 := hts (.fieldLink RX12 25 "OvenRoundModel" "first" "[I") (by decide +kernel)
  have hk31 := hts (.fieldLink RX12 31 "OvenRoundModel" "round" "[I") (by decide +kernel)
  have hk28 := hts (.fieldLink RX12 28 "OvenRoundModel" "last" "[I") (by decide +kernel)
  have h2 : ∀ (n : Nat) (a1 : Int32) (a2 : Int32) (σ : xSt) (H : Heap) (locs : List Loc) (ls : Array Slot), xw E A s.heap s σ H locs → lv_has ls 3 [(0, .ref (E.a 0)), (1, .int a1), (2, .int a2)] → fX12_isLeft_c2 n a1 a2 σ = some (o1, o2) → W p l e rmX12_isLeft s m args below meth c H locs 0 0 (MQ below (xQi E A o1 o2) args s 0 0 A) (F0 m 2 ls []) := by
    intro n2
    induction n2 with
    | zero => intro a1 a2 σ H locs ls hw hl hf; exact nomatch hf
    | succ n2 ih2 =>
      intro a1 a2 σ H locs ls hw hl hf
      rw [fX12_isLeft_c2_s] at hf
      refine lv_iload_n hx hb dX12_isLeft_2 rfl (lv_at hl 2 rfl) ?_
      refine lv_aload_n hx hb dX12_isLeft_3 rfl (lv_at hl 0 rfl) ?_
      refine x_getr hx hb hw (cM0 hE) (own := RX12) (ref := RX12) (C := RX12) (T := TX12) (N := 20) hts hiX12 hown rfl 1 (by decide) hk9 (fun _ h9 => h9) rfl dX12_isLeft_4 ?_
      refine lv_bipush (v := 6) hx hb dX12_isLeft_7 (by decide) ?_
      obtain ⟨hin, hf⟩ := xr_f hf
      refine x_iald hx hb hw (cM1 hE) hin dX12_isLeft_9 ?_
      refine lv_topi (fun v1 ex => ?_)
      replace hf := hf v1 ex
      clear ex hin
      refine lv_icmp_ge (tgt := 51) hx hb dX12_isLeft_10 (by decide) (fun c10 => ?_) (fun c10 => ?_)
      · replace hf := xif_pos c10 hf
        refine lv_iconst (v := 0) hx hb dX12_isLeft_51 (by decide) ?_
        exact x_zretc hx hb hr hlk hw (by decide) hf dX12_isLeft_52
      · replace hf := xif_neg c10 hf
        refine lv_aload_n hx hb dX12_isLeft_13 rfl (lv_at hl 0 rfl) ?_
        refine x_getr hx hb hw (cM0 hE) (own := RX12) (ref := RX12) (C := RX12) (T := TX12) (N := 20) hts hiX12 hown rfl 9 (by decide) hk25 (fun _ h9 => h9) rfl dX12_isLeft_14 ?_
        refine lv_iload_n hx hb dX12_isLeft_17 rfl (lv_at hl 2 rfl) ?_
        obtain ⟨hin, hf⟩ := xr_f hf
        refine x_iald hx hb hw (cM6 hE) hin dX12_isLeft_18 ?_
        refine lv_topi (fun v2 ex => ?_)
        replace hf := hf v2 ex
        clear ex hin
        refine lv_iconst (v := (-1)) hx hb dX12_isLeft_19 (by decide) ?_
        refine lv_icmp_eq (tgt := 45) hx hb dX12_isLeft_20 (by decide) (fun c20 => ?_) (fun c20 => ?_)
        · replace hf := xif_pos c20 hf
          obtain ⟨v3, ex⟩ : ∃ y : Int32, y = (a2 + 1) := ⟨_, rfl⟩
          replace hf := xl_f hf v3 ex
          refine lv_iinc (v := v3) (lv' := [(2, .int v3), (0, .ref (E.a 0)), (1, .int a1)]) hx hb dX12_isLeft_45 hl (k := 2) rfl (by rw [ex]; rfl) (by decide) rfl (fun ls hl => ?_)
          clear ex
          refine lv_goto (tgt := 2) hx hb dX12_isLeft_48 (by decide) ?_
          exact ih2 a1 v3 σ _ _ _ hw (lv_sub hl [1, 2, 0] rfl) hf
        · replace hf := xif_neg c20 hf
          refine lv_aload_n hx hb dX12_isLeft_23 rfl (lv_at hl 0 rfl) ?_
          refine x_getr hx hb hw (cM0 hE) (own := RX12) (ref := RX12) (C := RX12) (T := TX12) (N := 20) hts hiX12 hown rfl 11 (by decide) hk31 (fun _ h9 => h9) rfl dX12_isLeft_24 ?_
          refine lv_iload_n hx hb dX12_isLeft_27 rfl (lv_at hl 2 rfl) ?_
          obtain ⟨hin, hf⟩ := xr_f hf
          refine x_iald hx hb hw (cM8 hE) hin dX12_isLeft_28 ?_
          refine lv_topi (fun v4 ex => ?_)
          replace hf := hf v4 ex
          clear ex hin
          refine lv_iconst (v := (-1)) hx hb dX12_isLeft_29 (by decide) ?_
          refine lv_icmp_ne (tgt := 45) hx hb dX12_isLeft_30 (by decide) (fun c30 => ?_) (fun c30 => ?_)
          · replace hf := xif_neg c30 hf
            obtain ⟨v5, ex⟩ : ∃ y : Int32, y = (a2 + 1) := ⟨_, rfl⟩
            replace hf := xl_f hf v5 ex
            refine lv_iinc (v := v5) (lv' := [(2, .int v5), (0, .ref (E.a 0)), (1, .int a1)]) hx hb dX12_isLeft_45 hl (k := 2) rfl (by rw [ex]; rfl) (by decide) rfl (fun ls hl => ?_)
            clear ex
            refine lv_goto (tgt := 2) hx hb dX12_isLeft_48 (by decide) ?_
            exact ih2 a1 v5 σ _ _ _ hw (lv_sub hl [1, 2, 0] rfl) hf
          · replace hf := xif_pos c30 hf
            refine lv_aload_n hx hb dX12_isLeft_33 rfl (lv_at hl 0 rfl) ?_
            refine x_getr hx hb hw (cM0 hE) (own := RX12) (ref := RX12) (C := RX12) (T := TX12) (N := 20) hts hiX12 hown rfl 10 (by decide) hk28 (fun _ h9 => h9) rfl dX12_isLeft_34 ?_
            refine lv_iload_n hx hb dX12_isLeft_37 rfl (lv_at hl 2 rfl) ?_
            obtain ⟨hin, hf⟩ := xr_f hf
            refine x_iald hx hb hw (cM7 hE) hin dX12_isLeft_38 ?_
            refine lv_topi (fun v6 ex => ?_)
            replace hf := hf v6 ex
            clear ex hin
            refine lv_iload_n hx hb dX12_isLeft_39 rfl (lv_at hl 1 rfl) ?_
            refine lv_icmp_lt (tgt := 45) hx hb dX12_isLeft_40 (by decide) (fun c40 => ?_) (fun c40 => ?_)
            · replace hf := xif_pos c40 hf
              obtain ⟨v7, ex⟩ : ∃ y : Int32, y = (a2 + 1) := ⟨_, rfl⟩
              replace hf := xl_f hf v7 ex
              refine lv_iinc (v := v7) (lv' := [(2, .int v7), (0, .ref (E.a 0)), (1, .int a1)]) hx hb dX12_isLeft_45 hl (k := 2) rfl (by rw [ex]; rfl) (by decide) rfl (fun ls hl => ?_)
              clear ex
              refine lv_goto (tgt := 2) hx hb dX12_isLeft_48 (by decide) ?_
              exact ih2 a1 v7 σ _ _ _ hw (lv_sub hl [1, 2, 0] rfl) hf
            · replace hf := xif_neg c40 hf
              refine lv_iconst (v := 1) hx hb dX12_isLeft_43 (by decide) ?_
              exact x_zretc hx hb hr hlk hw (by decide) hf dX12_isLeft_44
  refine lv_iconst (v := 0) hx hb dX12_isLeft_0 (by decide) ?_
  refine lv_istore_n (lv' := [(2, .int 0), (0, .ref (E.a 0)), (1, .int p0)]) hx hb dX12_isLeft_1 rfl hl (by decide) rfl (fun ls hl => ?_)
  exact h2 xFU p0 0 σ _ _ _ hw (lv_sub hl [1, 2, 0] rfl) hf

def fX12_plans_c59 (k49 : (Int32 → xSt → Option xSt)) : Nat → Int32 → Int32 → xSt → Option xSt
  | 0 => fun _ _ _ => none
  | n + 1 => fun a1 a2 σ => (xr σ 1 680 4 fun v10 => (if v10 ≤ a2 then (xl (a1 + 10) fun v11 => k49 v11 σ) else (xc2 (fX12_nextOf a1 σ) fun r12 σ13 => (if r12 = (-1) then (xl (a2 + 1) fun v14 => fX12_plans_c59 k49 n a1 v14 σ13) else (xs σ13 8 20 r12 a1 fun σ15 => (xl (a2 + 1) fun v16 => fX12_plans_c59 k49 n a1 v16 σ15))))))
theorem fX12_plans_c59_s (k49 : (Int32 → xSt → Option xSt)) (n : Nat) (a1 : Int32) (a2 : Int32) (σ : xSt) : fX12_plans_c59 k49 (n + 1) a1 a2 σ = ((xr σ 1 680 4 fun v10 => (if v10 ≤ a2 then (xl (a1 + 10) fun v11 => k49 v11 σ) else (xc2 (fX12_nextOf a1 σ) fun r12 σ13 => (if r12 = (-1) then (xl (a2 + 1) fun v14 => fX12_plans_c59 k49 n a1 v14 σ13) else (xs σ13 8 20 r12 a1 fun σ15 => (xl (a2 + 1) fun v16 => fX12_plans_c59 k49 n a1 v16 σ15)))))) : Option xSt) := rfl
def fX12_plans_c49 : Nat → Int32 → xSt → Option xSt
  | 0 => fun _ _ => none
  | n + 1 => fun a1 σ => (xc2 (fX12_isLeft a1 σ) fun r8 σ9 => (if r8 = 0 then some σ9 else fX12_plans_c59 (fX12_plans_c49 n) xFU a1 0 σ9))
theorem fX12_plans_c49_s (n : Nat) (a1 : Int32) (σ : xSt) : fX12_plans_c49 (n + 1) a1 σ = ((xc2 (fX12_isLeft a1 σ) fun r8 σ9 => (if r8 = 0 then some σ9 else fX12_plans_c59 (fX12_plans_c49 n) xFU a1 0 σ9)) : Option xSt) := rfl
def fX12_plans_c2 : Nat → Int32 → xSt → Option xSt
  | 0 => fun _ _ => none
  | n + 1 => fun a1 σ => (xr σ 1 680 6 fun v1 => (if v1 ≤ a1 then (xr σ 1 680 0 fun v2 => (xl ((((v2 + 10) - 1) / 10) * 10) fun v3 => fX12_plans_c49 xFU v3 σ)) else (xc (fX12_bounds a1 σ) fun σ5 => (xs σ5 8 20 a1 (-1) fun σ6 => (xl (a1 + 1) fun v7 => fX12_plans_c2 n v7 σ6)))))
theorem fX12_plans_c2_s (n : Nat) (a1 : Int32) (σ : xSt) : fX12_plans_c2 (n + 1) a1 σ = ((xr σ 1 680 6 fun v1 => (if v1 ≤ a1 then (xr σ 1 680 0 fun v2 => (xl ((((v2 + 10) - 1) / 10) * 10) fun v3 => fX12_plans_c49 xFU v3 σ)) else (xc (fX12_bounds a1 σ) fun σ5 => (xs σ5 8 20 a1 (-1) fun σ6 => (xl (a1 + 1) fun v7 => fX12_plans_c2 n v7 σ6))))) : Option xSt) := rfl
def fX12_plans (σ : xSt) : Option xSt := fX12_plans_c2 xFU 0 σ
abbrev rmX12_plans : Room := { frames := 3, cells := 0, slots := 0, locals := 69 }
set_option maxRecDepth 100000 in
set_option maxHeartbeats 4000000 in
theorem mX12_plans {l : Launch} {E : xE} (hE : E.sh = shM) (σ : xSt) (o1 : xSt) (hf : fX12_plans σ = some o1) : xMv l yX12_plans wsX12_plans rmX12_plans E [.ref (E.a 0)] σ o1 := by
  unfold fX12_plans at hf
  refine xMv_of (cc := cX12_plans) (maxL := 4) (ret := none) (by decide) rfl (Nat.le_of_ble_eq_true rfl) ?_
  intro p e s m args below meth c A ls ⟨hx, hb, hr, hml, hown, hts, hlk⟩ hA hG hw hl
  have hown : s.vm.findClass RX12 = some m.cls := hown
  have hl : lv_has ls 4 [(0, .ref (E.a 0))] := hl
  have hk9 := hts (.fieldLink RX12 9 "OvenRoundModel" "w" "[I") (by decide +kernel)
  have hiX12 : ∀ w ∈ wsX120, w ∈ wsX12_plans := by decide +kernel
  have hk31 := hts (.fieldLink RX12 31 "OvenRoundModel" "round" "[I") (by decide +kernel)
  have h49 : ∀ (n : Nat) (a1 : Int32) (σ : xSt) (H : Heap) (locs : List Loc) (ls : Array Slot), xw E A s.heap s σ H locs → lv_has ls 4 [(0, .ref (E.a 0)), (1, .int a1)] → fX12_plans_c49 n a1 σ = some o1 → W p l e rmX12_plans s m args below meth c H locs 0 0 (MQ below (xQv E A o1) args s 0 0 A) (F0 m 49 ls []) := by
    intro n49
    induction n49 with
    | zero => intro a1 σ H locs ls hw hl hf; exact nomatch hf
    | succ n49 ih49 =>
      have h59 : ∀ (n : Nat) (a1 : Int32) (a2 : Int32) (σ : xSt) (H : Heap) (locs : List Loc) (ls : Array Slot), xw E A s.heap s σ H locs → lv_has ls 4 [(0, .ref (E.a 0)), (1, .int a1), (2, .int a2)] → fX12_plans_c59 (fX12_plans_c49 n49) n a1 a2 σ = some o1 → W p l e rmX12_plans s m args below meth c H locs 0 0 (MQ below (xQv E A o1) args s 0 0 A) (F0 m 59 ls []) := by
        intro n59
        induction n59 with
        | zero => intro a1 a2 σ H locs ls hw hl hf; exact nomatch hf
        | succ n59 ih59 =>
          intro a1 a2 σ H locs ls hw hl hf
          rw [fX12_plans_c59_s] at hf
          refine lv_iload_n hx hb dX12_plans_59 rfl (lv_at hl 2 rfl) ?_
          refine lv_aload_n hx hb dX12_plans_60 rfl (lv_at hl 0 rfl) ?_
          refine x_getr hx hb hw (cM0 hE) (own := RX12) (ref := RX12) (C := RX12) (T := TX12) (N := 20) hts hiX12 hown rfl 1 (by decide) hk9 (fun _ h9 => h9) rfl dX12_plans_61 ?_
          refine lv_iconst (v := 4) hx hb dX12_plans_64 (by decide) ?_
          obtain ⟨hin, hf⟩ := xr_f hf
          refine x_iald hx hb hw (cM1 hE) hin dX12_plans_65 ?_
          refine lv_topi (fun v10 ex => ?_)
          replace hf := hf v10 ex
          clear ex hin
          refine lv_icmp_ge (tgt := 93) hx hb dX12_plans_66 (by decide) (fun c66 => ?_) (fun c66 => ?_)
          · replace hf := xif_pos c66 hf
            obtain ⟨v11, ex⟩ : ∃ y : Int32, y = (a1 + 10) := ⟨_, rfl⟩
            replace hf := xl_f hf v11 ex
            refine lv_iinc (v := v11) (lv' := [(1, .int v11), (0, .ref (E.a 0)), (2, .int a2)]) hx hb dX12_plans_93 hl (k := 1) rfl (by rw [ex]; rfl) (by decide) rfl (fun ls hl => ?_)
            clear ex
            refine lv_goto (tgt := 49) hx hb dX12_plans_96 (by decide) ?_
            exact ih49 v11 σ _ _ _ hw (lv_sub hl [1, 0] rfl) hf
          · replace hf := xif_neg c66 hf
            refine lv_aload_n hx hb dX12_plans_69 rfl (lv_at hl 0 rfl) ?_
            refine lv_iload_n hx hb dX12_plans_70 rfl (lv_at hl 1 rfl) ?_
            obtain ⟨r12, σ13, hcl, hf⟩ := xc2_f hf
            refine x_calli (va_runV (As := [.int a1]) (rest := []) ⟨hx, hb, hml, hown, hts⟩ (mX12_nextOf hE a1 σ r12 σ13 hcl H.size) (cwV 1 hts gX12_plans_X12_nextOf rfl rfl rfl (by decide +kernel) ⟨Nat.le_of_ble_eq_true rfl, Nat.le_of_ble_eq_true rfl⟩) (x_preV _ hw hA hG (cM0 hE) rfl) rfl rfl hl.1 rfl (lv_room (Nat.le_of_ble_eq_true rfl)) dX12_plans_71 ⟨Nat.le_of_ble_eq_true rfl, Nat.le_of_ble_eq_true rfl⟩) hw hA (fun H locs hw => ?_)
            clear hcl
            refine lv_istore_n (lv' := [(3, .int r12), (0, .ref (E.a 0)), (1, .int a1), (2, .int a2)]) hx hb dX12_plans_74 rfl hl (by decide) rfl (fun ls hl => ?_)
            refine lv_iload_n hx hb dX12_plans_75 rfl (lv_at hl 0 rfl) ?_
            refine lv_iconst (v := (-1)) hx hb dX12_plans_76 (by decide) ?_
            refine lv_icmp_eq (tgt := 87) hx hb dX12_plans_77 (by decide) (fun c77 => ?_) (fun c77 => ?_)
            · replace hf := xif_pos c77 hf
              obtain ⟨v14, ex⟩ : ∃ y : Int32, y = (a2 + 1) := ⟨_, rfl⟩
              replace hf := xl_f hf v14 ex
              refine lv_iinc (v := v14) (lv' := [(2, .int v14), (3, .int r12), (0, .ref (E.a 0)), (1, .int a1)]) hx hb dX12_plans_87 hl (k := 3) rfl (by rw [ex]; rfl) (by decide) rfl (fun ls hl => ?_)
              clear ex
              refine lv_goto (tgt := 59) hx hb dX12_plans_90 (by decide) ?_
              exact ih59 a1 v14 σ13 _ _ _ hw (lv_sub hl [2, 3, 0] rfl) hf
            · replace hf := xif_neg c77 hf
              refine lv_aload_n hx hb dX12_plans_80 rfl (lv_at hl 1 rfl) ?_
              refine x_getr hx hb hw (cM0 hE) (own := RX12) (ref := RX12) (C := RX12) (T := TX12) (N := 20) hts hiX12 hown rfl 11 (by decide) hk31 (fun _ h9 => h9) rfl dX12_plans_81 ?_
              refine lv_iload_n hx hb dX12_plans_84 rfl (lv_at hl 0 rfl) ?_
              refine lv_iload_n hx hb dX12_plans_85 rfl (lv_at hl 2 rfl) ?_
              obtain ⟨hin, hf⟩ := xs_f hf
              refine x_iast hx hb hw (cM8 hE) hin dX12_plans_86 (fun σ15 H locs ex hw => ?_)
              replace hf := hf σ15 ex
              clear ex hin
              obtain ⟨v16, ex⟩ : ∃ y : Int32, y = (a2 + 1) := ⟨_, rfl⟩
              replace hf := xl_f hf v16 ex
              refine lv_iinc (v := v16) (lv' := [(2, .int v16), (3, .int r12), (0, .ref (E.a 0)), (1, .int a1)]) hx hb dX12_plans_87 hl (k := 3) rfl (by rw [ex]; rfl) (by decide) rfl (fun ls hl => ?_)
              clear ex
              refine lv_goto (tgt := 59) hx hb dX12_plans_90 (by decide) ?_
              exact ih59 a1 v16 σ15 _ _ _ hw (lv_sub hl [2, 3, 0] rfl) hf
      intro a1 σ H locs ls hw hl hf
      rw [fX12_plans_c49_s] at hf
      refine lv_aload_n hx hb dX12_plans_49 rfl (lv_at hl 0 rfl) ?_
      refine lv_iload_n hx hb dX12_plans_50 rfl (lv_at hl 1 rfl) ?_
      obtain ⟨r8, σ9, hcl, hf⟩ := xc2_f hf
      refine x_calli (va_runV (As := [.int a1]) (rest := []) ⟨hx, hb, hml, hown, hts⟩ (mX12_isLeft hE a1 σ r8 σ9 hcl H.size) (cwV 1 hts gX12_plans_X12_isLeft rfl rfl rfl (by decide +kernel) ⟨Nat.le_of_ble_eq_true rfl, Nat.le_of_ble_eq_true rfl⟩) (x_preV _ hw hA hG (cM0 hE) rfl) rfl rfl hl.1 rfl (lv_room (Nat.le_of_ble_eq_true rfl)) dX12_plans_51 ⟨Nat.le_of_ble_eq_true rfl, Nat.le_of_ble_eq_true rfl⟩) hw hA (fun H locs hw => ?_)
      clear hcl
      refine lv_if_eq (tgt := 99) hx hb dX12_plans_54 (by decide) (fun c54 => ?_) (fun c54 => ?_)
      · replace hf := xif_pos c54 hf
        exact x_vret hx hb hr hlk hw hf dX12_plans_99
      · replace hf := xif_neg c54 hf
        refine lv_iconst (v := 0) hx hb dX12_plans_57 (by decide) ?_
        refine lv_istore_n (lv' := [(2, .int 0), (0, .ref (E.a 0)), (1, .int a1)]) hx hb dX12_plans_58 rfl hl (by decide) rfl (fun ls hl => ?_)
        exact h59 xFU a1 0 σ9 _ _ _ hw (lv_sub hl [1, 2, 0] rfl) hf
  have h2 : ∀ (n : Nat) (a1 : Int32) (σ : xSt) (H : Heap) (locs : List Loc) (ls : Array Slot), xw E A s.heap s σ H locs → lv_has ls 4 [(0, .ref (E.a 0)), (1, .int a1)] → fX12_plans_c2 n a1 σ = some o1 → W p l e rmX12_plans s m args below meth c H locs 0 0 (MQ below (xQv E A o1) args s 0 0 A) (F0 m 2 ls []) := by
    intro n2
    induction n2 with
    | zero => intro a1 σ H locs ls hw hl hf; exact nomatch hf
    | succ n2 ih2 =>
      intro a1 σ H locs ls hw hl hf
      rw [fX12_plans_c2_s] at hf
      refine lv_iload_n hx hb dX12_plans_2 rfl (lv_at hl 1 rfl) ?_
      refine lv_aload_n hx hb dX12_plans_3 rfl (lv_at hl 0 rfl) ?_
      refine x_getr hx hb hw (cM0 hE) (own := RX12) (ref := RX12) (C := RX12) (T := TX12) (N := 20) hts hiX12 hown rfl 1 (by decide) hk9 (fun _ h9 => h9) rfl dX12_plans_4 ?_
      refine lv_bipush (v := 6) hx hb dX12_plans_7 (by decide) ?_
      obtain ⟨hin, hf⟩ := xr_f hf
      refine x_iald hx hb hw (cM1 hE) hin dX12_plans_9 ?_
      refine lv_topi (fun v1 ex => ?_)
      replace hf := hf v1 ex
      clear ex hin
      refine lv_icmp_ge (tgt := 31) hx hb dX12_plans_10 (by decide) (fun c10 => ?_) (fun c10 => ?_)
      · replace hf := xif_pos c10 hf
        refine lv_aload_n hx hb dX12_plans_31 rfl (lv_at hl 0 rfl) ?_
        refine x_getr hx hb hw (cM0 hE) (own := RX12) (ref := RX12) (C := RX12) (T := TX12) (N := 20) hts hiX12 hown rfl 1 (by decide) hk9 (fun _ h9 => h9) rfl dX12_plans_32 ?_
        refine lv_iconst (v := 0) hx hb dX12_plans_35 (by decide) ?_
        obtain ⟨hin, hf⟩ := xr_f hf
        refine x_iald hx hb hw (cM1 hE) hin dX12_plans_36 ?_
        refine lv_topi (fun v2 ex => ?_)
        replace hf := hf v2 ex
        clear ex hin
        refine lv_bipush (v := 10) hx hb dX12_plans_37 (by decide) ?_
        refine lv_iadd hx hb dX12_plans_39 ?_
        refine lv_iconst (v := 1) hx hb dX12_plans_40 (by decide) ?_
        refine lv_isub hx hb dX12_plans_41 ?_
        refine lv_bipush (v := 10) hx hb dX12_plans_42 (by decide) ?_
        refine lv_idiv hx hb dX12_plans_44 (by decide) ?_
        refine lv_bipush (v := 10) hx hb dX12_plans_45 (by decide) ?_
        refine lv_imul hx hb dX12_plans_47 ?_
        refine lv_topi (fun v3 ex => ?_)
        replace hf := xl_f hf v3 ex
        clear ex
        refine lv_istore_n (lv' := [(1, .int v3), (0, .ref (E.a 0))]) hx hb dX12_plans_48 rfl hl (by decide) rfl (fun ls hl => ?_)
        exact h49 xFU v3 σ _ _ _ hw (lv_sub hl [1, 0] rfl) hf
      · replace hf := xif_neg c10 hf
        refine lv_aload_n hx hb dX12_plans_13 rfl (lv_at hl 0 rfl) ?_
        refine lv_iload_n hx hb dX12_plans_14 rfl (lv_at hl 1 rfl) ?_
        obtain ⟨σ5, hcl, hf⟩ := xc_e hf
        refine x_callv (va_runV (As := [.int a1]) (rest := []) ⟨hx, hb, hml, hown, hts⟩ (mX12_bounds hE a1 σ σ5 hcl H.size) (cwV 1 hts gX12_plans_X12_bounds rfl rfl rfl (by decide +kernel) ⟨Nat.le_of_ble_eq_true rfl, Nat.le_of_ble_eq_true rfl⟩) (x_preV _ hw hA hG (cM0 hE) rfl) rfl rfl hl.1 rfl (lv_room (Nat.le_of_ble_eq_true rfl)) dX12_plans_15 ⟨Nat.le_of_ble_eq_true rfl, Nat.le_of_ble_eq_true rfl⟩) hw hA (fun H locs hw => ?_)
        clear hcl
        refine lv_aload_n hx hb dX12_plans_18 rfl (lv_at hl 0 rfl) ?_
        refine x_getr hx hb hw (cM0 hE) (own := RX12) (ref := RX12) (C := RX12) (T := TX12) (N := 20) hts hiX12 hown rfl 11 (by decide) hk31 (fun _ h9 => h9) rfl dX12_plans_19 ?_
        refine lv_iload_n hx hb dX12_plans_22 rfl (lv_at hl 1 rfl) ?_
        refine lv_iconst (v := (-1)) hx hb dX12_plans_23 (by decide) ?_
        obtain ⟨hin, hf⟩ := xs_f hf
        refine x_iast hx hb hw (cM8 hE) hin dX12_plans_24 (fun σ6 H locs ex hw => ?_)
        replace hf := hf σ6 ex
        clear ex hin
        obtain ⟨v7, ex⟩ : ∃ y : Int32, y = (a1 + 1) := ⟨_, rfl⟩
        replace hf := xl_f hf v7 ex
        refine lv_iinc (v := v7) (lv' := [(1, .int v7), (0, .ref (E.a 0))]) hx hb dX12_plans_25 hl (k := 1) rfl (by rw [ex]; rfl) (by decide) rfl (fun ls hl => ?_)
        clear ex
        refine lv_goto (tgt := 2) hx hb dX12_plans_28 (by decide) ?_
        exact ih2 v7 σ6 _ _ _ hw (lv_sub hl [1, 0] rfl) hf
  refine lv_iconst (v := 0) hx hb dX12_plans_0 (by decide) ?_
  refine lv_istore_n (lv' := [(1, .int 0), (0, .ref (E.a 0))]) hx hb dX12_plans_1 rfl hl (by decide) rfl (fun ls hl => ?_)
  exact h2 xFU 0 σ _ _ _ hw (lv_sub hl [1, 0] rfl) hf

def fX12_planned (p0 : Int32) (σ : xSt) : Option (Int32 × xSt) := (xc2 (fX12_isDough p0 σ) fun r1 σ2 => (xc2 (fX12_can r1 1 σ2) fun r3 σ4 => (if r3 = 0 then some (0, σ4) else (xc (fX12_plans σ4) fun σ6 => (xr σ6 8 20 p0 fun v7 => some (v7, σ6))))))
abbrev rmX12_planned : Room := { frames := 4, cells := 0, slots := 0, locals := 92 }
set_option maxRecDepth 100000 in
set_option maxHeartbeats 4000000 in
theorem mX12_planned {l : Launch} {E : xE} (hE : E.sh = shM) (p0 : Int32) (σ : xSt) (o1 : Int32) (o2 : xSt) (hf : fX12_planned p0 σ = some (o1, o2)) : xMi l yX12_planned wsX12_planned rmX12_planned E [.ref (E.a 0), .int p0] σ o1 o2 := by
  unfold fX12_planned at hf
  refine xMi_of (cc := cX12_planned) (maxL := 2) (ret := (some .int)) (by decide) rfl (Nat.le_of_ble_eq_true rfl) ?_
  intro p e s m args below meth c A ls ⟨hx, hb, hr, hml, hown, hts, hlk⟩ hA hG hw hl
  have hown : s.vm.findClass RX12 = some m.cls := hown
  have hl : lv_has ls 2 [(0, .ref (E.a 0)), (1, .int p0)] := hl
  have hk31 := hts (.fieldLink RX12 31 "OvenRoundModel" "round" "[I") (by decide +kernel)
  have hiX12 : ∀ w ∈ wsX120, w ∈ wsX12_planned := by decide +kernel
  refine lv_aload_n hx hb dX12_planned_0 rfl (lv_at hl 0 rfl) ?_
  refine lv_aload_n hx hb dX12_planned_1 rfl (lv_at hl 0 rfl) ?_
  refine lv_iload_n hx hb dX12_planned_2 rfl (lv_at hl 1 rfl) ?_
  obtain ⟨r1, σ2, hcl, hf⟩ := xc2_f hf
  refine x_calli (va_runV (As := [.int p0]) (rest := [.ref (E.a 0)]) ⟨hx, hb, hml, hown, hts⟩ (mX12_isDough hE p0 σ r1 σ2 hcl s.heap.size) (cwV 1 hts gX12_planned_X12_isDough rfl rfl rfl (by decide +kernel) ⟨Nat.le_of_ble_eq_true rfl, Nat.le_of_ble_eq_true rfl⟩) (x_preV _ hw hA hG (cM0 hE) rfl) rfl rfl hl.1 rfl (lv_room (Nat.le_of_ble_eq_true rfl)) dX12_planned_3 ⟨Nat.le_of_ble_eq_true rfl, Nat.le_of_ble_eq_true rfl⟩) hw hA (fun H locs hw => ?_)
  clear hcl
  refine lv_iconst (v := 1) hx hb dX12_planned_6 (by decide) ?_
  obtain ⟨r3, σ4, hcl, hf⟩ := xc2_f hf
  refine x_calli (va_runV (As := [.int r1, .int 1]) (rest := []) ⟨hx, hb, hml, hown, hts⟩ (mX12_can hE r1 1 σ2 r3 σ4 hcl H.size) (cwV 2 hts gX12_planned_X12_can rfl rfl rfl (by decide +kernel) ⟨Nat.le_of_ble_eq_true rfl, Nat.le_of_ble_eq_true rfl⟩) (x_preV _ hw hA hG (cM0 hE) rfl) rfl rfl hl.1 rfl (lv_room (Nat.le_of_ble_eq_true rfl)) dX12_planned_7 ⟨Nat.le_of_ble_eq_true rfl, Nat.le_of_ble_eq_true rfl⟩) hw hA (fun H locs hw => ?_)
  clear hcl
  refine lv_if_ne (tgt := 15) hx hb dX12_planned_10 (by decide) (fun c10 => ?_) (fun c10 => ?_)
  · replace hf := xif_neg c10 hf
    refine lv_aload_n hx hb dX12_planned_15 rfl (lv_at hl 0 rfl) ?_
    obtain ⟨σ6, hcl, hf⟩ := xc_e hf
    refine x_callv (va_runV (As := []) (rest := []) ⟨hx, hb, hml, hown, hts⟩ (mX12_plans hE σ4 σ6 hcl H.size) (cwV 0 hts gX12_planned_X12_plans rfl rfl rfl (by decide +kernel) ⟨Nat.le_of_ble_eq_true rfl, Nat.le_of_ble_eq_true rfl⟩) (x_preV _ hw hA hG (cM0 hE) rfl) rfl rfl hl.1 rfl (lv_room (Nat.le_of_ble_eq_true rfl)) dX12_planned_16 ⟨Nat.le_of_ble_eq_true rfl, Nat.le_of_ble_eq_true rfl⟩) hw hA (fun H locs hw => ?_)
    clear hcl
    refine lv_aload_n hx hb dX12_planned_19 rfl (lv_at hl 0 rfl) ?_
    refine x_getr hx hb hw (cM0 hE) (own := RX12) (ref := RX12) (C := RX12) (T := TX12) (N := 20) hts hiX12 hown rfl 11 (by decide) hk31 (fun _ h9 => h9) rfl dX12_planned_20 ?_
    refine lv_iload_n hx hb dX12_planned_23 rfl (lv_at hl 1 rfl) ?_
    obtain ⟨hin, hf⟩ := xr_f hf
    refine x_iald hx hb hw (cM8 hE) hin dX12_planned_24 ?_
    refine lv_topi (fun v7 ex => ?_)
    replace hf := hf v7 ex
    clear ex hin
    exact x_iret hx hb hr hlk hw hf dX12_planned_25
  · replace hf := xif_pos c10 hf
    refine lv_iconst (v := 0) hx hb dX12_planned_13 (by decide) ?_
    exact x_iret hx hb hr hlk hw hf dX12_planned_14

def fX12_inPlan_c13 : Nat → Int32 → Int32 → xSt → Option (Int32 × xSt)
  | 0 => fun _ _ _ => none
  | n + 1 => fun a1 a2 σ => (xr σ 1 680 6 fun v4 => (if v4 ≤ a2 then some (a1, σ) else (xr σ 6 20 a2 fun v5 => (if v5 = (-1) then (xl (a1 + 0) fun v8 => (xl (a2 + 1) fun v9 => fX12_inPlan_c13 n v8 v9 σ)) else (xl (a1 + 1) fun v6 => (xl (a2 + 1) fun v7 => fX12_inPlan_c13 n v6 v7 σ))))))
theorem fX12_inPlan_c13_s (n : Nat) (a1 : Int32) (a2 : Int32) (σ : xSt) : fX12_inPlan_c13 (n + 1) a1 a2 σ = ((xr σ 1 680 6 fun v4 => (if v4 ≤ a2 then some (a1, σ) else (xr σ 6 20 a2 fun v5 => (if v5 = (-1) then (xl (a1 + 0) fun v8 => (xl (a2 + 1) fun v9 => fX12_inPlan_c13 n v8 v9 σ)) else (xl (a1 + 1) fun v6 => (xl (a2 + 1) fun v7 => fX12_inPlan_c13 n v6 v7 σ)))))) : Option (Int32 × xSt)) := rfl
def fX12_inPlan (σ : xSt) : Option (Int32 × xSt) := (xp σ 0 0 0 fun σ1 => (xc (fX12_plans σ1) fun σ3 => fX12_inPlan_c13 xFU 0 0 σ3))
abbrev rmX12_inPlan : Room := { frames := 4, cells := 0, slots := 0, locals := 92 }
set_option maxRecDepth 100000 in
set_option maxHeartbeats 4000000 in
theorem mX12_inPlan {l : Launch} {E : xE} (hE : E.sh = shM) (σ : xSt) (o1 : Int32) (o2 : xSt) (hf : fX12_inPlan σ = some (o1, o2)) : xMi l yX12_inPlan wsX12_inPlan rmX12_inPlan E [.ref (E.a 0)] σ o1 o2 := by
  unfold fX12_inPlan at hf
  refine xMi_of (cc := cX12_inPlan) (maxL := 3) (ret := (some .int)) (by decide) rfl (Nat.le_of_ble_eq_true rfl) ?_
  intro p e s m args below meth c A ls ⟨hx, hb, hr, hml, hown, hts, hlk⟩ hA hG hw hl
  have hown : s.vm.findClass RX12 = some m.cls := hown
  have hl : lv_has ls 3 [(0, .ref (E.a 0))] := hl
  have hk46 := hts (.fieldLink RX12 46 "OvenRoundModel" "raised" "I") (by decide +kernel)
  have hiX12 : ∀ w ∈ wsX120, w ∈ wsX12_inPlan := by decide +kernel
  have hk9 := hts (.fieldLink RX12 9 "OvenRoundModel" "w" "[I") (by decide +kernel)
  have hk25 := hts (.fieldLink RX12 25 "OvenRoundModel" "first" "[I") (by decide +kernel)
  have h13 : ∀ (n : Nat) (a1 : Int32) (a2 : Int32) (σ : xSt) (H : Heap) (locs : List Loc) (ls : Array Slot), xw E A s.heap s σ H locs → lv_has ls 3 [(0, .ref (E.a 0)), (1, .int a1), (2, .int a2)] → fX12_inPlan_c13 n a1 a2 σ = some (o1, o2) → W p l e rmX12_inPlan s m args below meth c H locs 0 0 (MQ below (xQi E A o1 o2) args s 0 0 A) (F0 m 13 ls []) := by
    intro n13
    induction n13 with
    | zero => intro a1 a2 σ H locs ls hw hl hf; exact nomatch hf
    | succ n13 ih13 =>
      intro a1 a2 σ H locs ls hw hl hf
      rw [fX12_inPlan_c13_s] at hf
      refine lv_iload_n hx hb dX12_inPlan_13 rfl (lv_at hl 2 rfl) ?_
      refine lv_aload_n hx hb dX12_inPlan_14 rfl (lv_at hl 0 rfl) ?_
      refine x_getr hx hb hw (cM0 hE) (own := RX12) (ref := RX12) (C := RX12) (T := TX12) (N := 20) hts hiX12 hown rfl 1 (by decide) hk9 (fun _ h9 => h9) rfl dX12_inPlan_15 ?_
      refine lv_bipush (v := 6) hx hb dX12_inPlan_18 (by decide) ?_
      obtain ⟨hin, hf⟩ := xr_f hf
      refine x_iald hx hb hw (cM1 hE) hin dX12_inPlan_20 ?_
      refine lv_topi (fun v4 ex => ?_)
      replace hf := hf v4 ex
      clear ex hin
      refine lv_icmp_ge (tgt := 48) hx hb dX12_inPlan_21 (by decide) (fun c21 => ?_) (fun c21 => ?_)
      · replace hf := xif_pos c21 hf
        refine lv_iload_n hx hb dX12_inPlan_48 rfl (lv_at hl 1 rfl) ?_
        exact x_iret hx hb hr hlk hw hf dX12_inPlan_49
      · replace hf := xif_neg c21 hf
        refine lv_iload_n hx hb dX12_inPlan_24 rfl (lv_at hl 1 rfl) ?_
        refine lv_aload_n hx hb dX12_inPlan_25 rfl (lv_at hl 0 rfl) ?_
        refine x_getr hx hb hw (cM0 hE) (own := RX12) (ref := RX12) (C := RX12) (T := TX12) (N := 20) hts hiX12 hown rfl 9 (by decide) hk25 (fun _ h9 => h9) rfl dX12_inPlan_26 ?_
        refine lv_iload_n hx hb dX12_inPlan_29 rfl (lv_at hl 2 rfl) ?_
        obtain ⟨hin, hf⟩ := xr_f hf
        refine x_iald hx hb hw (cM6 hE) hin dX12_inPlan_30 ?_
        refine lv_topi (fun v5 ex => ?_)
        replace hf := hf v5 ex
        clear ex hin
        refine lv_iconst (v := (-1)) hx hb dX12_inPlan_31 (by decide) ?_
        refine lv_icmp_ne (tgt := 39) hx hb dX12_inPlan_32 (by decide) (fun c32 => ?_) (fun c32 => ?_)
        · replace hf := xif_neg c32 hf
          refine lv_iconst (v := 1) hx hb dX12_inPlan_39 (by decide) ?_
          refine lv_iadd hx hb dX12_inPlan_40 ?_
          refine lv_topi (fun v6 ex => ?_)
          replace hf := xl_f hf v6 ex
          clear ex
          refine lv_istore_n (lv' := [(1, .int v6), (0, .ref (E.a 0)), (2, .int a2)]) hx hb dX12_inPlan_41 rfl hl (by decide) rfl (fun ls hl => ?_)
          obtain ⟨v7, ex⟩ : ∃ y : Int32, y = (a2 + 1) := ⟨_, rfl⟩
          replace hf := xl_f hf v7 ex
          refine lv_iinc (v := v7) (lv' := [(2, .int v7), (1, .int v6), (0, .ref (E.a 0))]) hx hb dX12_inPlan_42 hl (k := 2) rfl (by rw [ex]; rfl) (by decide) rfl (fun ls hl => ?_)
          clear ex
          refine lv_goto (tgt := 13) hx hb dX12_inPlan_45 (by decide) ?_
          exact ih13 v6 v7 σ _ _ _ hw (lv_sub hl [2, 1, 0] rfl) hf
        · replace hf := xif_pos c32 hf
          refine lv_iconst (v := 0) hx hb dX12_inPlan_35 (by decide) ?_
          refine lv_goto (tgt := 40) hx hb dX12_inPlan_36 (by decide) ?_
          refine lv_iadd hx hb dX12_inPlan_40 ?_
          refine lv_topi (fun v8 ex => ?_)
          replace hf := xl_f hf v8 ex
          clear ex
          refine lv_istore_n (lv' := [(1, .int v8), (0, .ref (E.a 0)), (2, .int a2)]) hx hb dX12_inPlan_41 rfl hl (by decide) rfl (fun ls hl => ?_)
          obtain ⟨v9, ex⟩ : ∃ y : Int32, y = (a2 + 1) := ⟨_, rfl⟩
          replace hf := xl_f hf v9 ex
          refine lv_iinc (v := v9) (lv' := [(2, .int v9), (1, .int v8), (0, .ref (E.a 0))]) hx hb dX12_inPlan_42 hl (k := 2) rfl (by rw [ex]; rfl) (by decide) rfl (fun ls hl => ?_)
          clear ex
          refine lv_goto (tgt := 13) hx hb dX12_inPlan_45 (by decide) ?_
          exact ih13 v8 v9 σ _ _ _ hw (lv_sub hl [2, 1, 0] rfl) hf
  refine lv_aload_n hx hb dX12_inPlan_0 rfl (lv_at hl 0 rfl) ?_
  refine lv_iconst (v := 0) hx hb dX12_inPlan_1 (by decide) ?_
  refine x_puti hx hb hw (cM0 hE) (own := RX12) (ref := RX12) (C := RX12) (T := TX12) (N := 20) hts hiX12 tyX12 tyX12_ok nmX12 hown rfl 0 (by decide) hk46 (fun _ h9 => h9) rfl (by decide +kernel) rfl dX12_inPlan_2 (fun σ1 H locs ex hw => ?_)
  replace hf := xp_f hf σ1 ex
  clear ex
  refine lv_aload_n hx hb dX12_inPlan_5 rfl (lv_at hl 0 rfl) ?_
  obtain ⟨σ3, hcl, hf⟩ := xc_e hf
  refine x_callv (va_runV (As := []) (rest := []) ⟨hx, hb, hml, hown, hts⟩ (mX12_plans hE σ1 σ3 hcl H.size) (cwV 0 hts gX12_inPlan_X12_plans rfl rfl rfl (by decide +kernel) ⟨Nat.le_of_ble_eq_true rfl, Nat.le_of_ble_eq_true rfl⟩) (x_preV _ hw hA hG (cM0 hE) rfl) rfl rfl hl.1 rfl (lv_room (Nat.le_of_ble_eq_true rfl)) dX12_inPlan_6 ⟨Nat.le_of_ble_eq_true rfl, Nat.le_of_ble_eq_true rfl⟩) hw hA (fun H locs hw => ?_)
  clear hcl
  refine lv_iconst (v := 0) hx hb dX12_inPlan_9 (by decide) ?_
  refine lv_istore_n (lv' := [(1, .int 0), (0, .ref (E.a 0))]) hx hb dX12_inPlan_10 rfl hl (by decide) rfl (fun ls hl => ?_)
  refine lv_iconst (v := 0) hx hb dX12_inPlan_11 (by decide) ?_
  refine lv_istore_n (lv' := [(2, .int 0), (1, .int 0), (0, .ref (E.a 0))]) hx hb dX12_inPlan_12 rfl hl (by decide) rfl (fun ls hl => ?_)
  exact h13 xFU 0 0 σ3 _ _ _ hw (lv_sub hl [2, 1, 0] rfl) hf

def fX12_late_c49 (k13 : (Int32 → Int32 → xSt → Option (Int32 × xSt))) (a2 : Int32) (t0 : Int32) (σ : xSt) : Option (Int32 × xSt) := (xl (t0 + 0) fun v9 => (xl (a2 + 1) fun v10 => k13 v9 v10 σ))
def fX12_late_c13 : Nat → Int32 → Int32 → xSt → Option (Int32 × xSt)
  | 0 => fun _ _ _ => none
  | n + 1 => fun a1 a2 σ => (xr σ 1 680 6 fun v4 => (if v4 ≤ a2 then some (a1, σ) else (xr σ 6 20 a2 fun v5 => (if v5 = (-1) then fX12_late_c49 (fX12_late_c13 n) a2 a1 σ else (xr σ 8 20 a2 fun v6 => (if v6 = (-1) then (xl (a1 + 1) fun v7 => (xl (a2 + 1) fun v8 => fX12_late_c13 n v7 v8 σ)) else fX12_late_c49 (fX12_late_c13 n) a2 a1 σ))))))
theorem fX12_late_c13_s (n : Nat) (a1 : Int32) (a2 : Int32) (σ : xSt) : fX12_late_c13 (n + 1) a1 a2 σ = ((xr σ 1 680 6 fun v4 => (if v4 ≤ a2 then some (a1, σ) else (xr σ 6 20 a2 fun v5 => (if v5 = (-1) then fX12_late_c49 (fX12_late_c13 n) a2 a1 σ else (xr σ 8 20 a2 fun v6 => (if v6 = (-1) then (xl (a1 + 1) fun v7 => (xl (a2 + 1) fun v8 => fX12_late_c13 n v7 v8 σ)) else fX12_late_c49 (fX12_late_c13 n) a2 a1 σ)))))) : Option (Int32 × xSt)) := rfl
def fX12_late (σ : xSt) : Option (Int32 × xSt) := (xp σ 0 0 0 fun σ1 => (xc (fX12_plans σ1) fun σ3 => fX12_late_c13 xFU 0 0 σ3))
abbrev rmX12_late : Room := { frames := 4, cells := 0, slots := 0, locals := 92 }
set_option maxRecDepth 100000 in
set_option maxHeartbeats 4000000 in
theorem mX12_late {l : Launch} {E : xE} (hE : E.sh = shM) (σ : xSt) (o1 : Int32) (o2 : xSt) (hf : fX12_late σ = some (o1, o2)) : xMi l yX12_late wsX12_late rmX12_late E [.ref (E.a 0)] σ o1 o2 := by
  unfold fX12_late at hf
  refine xMi_of (cc := cX12_late) (maxL := 3) (ret := (some .int)) (by decide) rfl (Nat.le_of_ble_eq_true rfl) ?_
  intro p e s m args below meth c A ls ⟨hx, hb, hr, hml, hown, hts, hlk⟩ hA hG hw hl
  have hown : s.vm.findClass RX12 = some m.cls := hown
  have hl : lv_has ls 3 [(0, .ref (E.a 0))] := hl
  have hk46 := hts (.fieldLink RX12 46 "OvenRoundModel" "raised" "I") (by decide +kernel)
  have hiX12 : ∀ w ∈ wsX120, w ∈ wsX12_late := by decide +kernel
  have hk9 := hts (.fieldLink RX12 9 "OvenRoundModel" "w" "[I") (by decide +kernel)
  have hk25 := hts (.fieldLink RX12 25 "OvenRoundModel" "first" "[I") (by decide +kernel)
  have hk31 := hts (.fieldLink RX12 31 "OvenRoundModel" "round" "[I") (by decide +kernel)
  have h13 : ∀ (n : Nat) (a1 : Int32) (a2 : Int32) (σ : xSt) (H : Heap) (locs : List Loc) (ls : Array Slot), xw E A s.heap s σ H locs → lv_has ls 3 [(0, .ref (E.a 0)), (1, .int a1), (2, .int a2)] → fX12_late_c13 n a1 a2 σ = some (o1, o2) → W p l e rmX12_late s m args below meth c H locs 0 0 (MQ below (xQi E A o1 o2) args s 0 0 A) (F0 m 13 ls []) := by
    intro n13
    induction n13 with
    | zero => intro a1 a2 σ H locs ls hw hl hf; exact nomatch hf
    | succ n13 ih13 =>
      have h49 : ∀ (a2 : Int32) (t0 : Int32) (σ : xSt) (H : Heap) (locs : List Loc) (ls : Array Slot), xw E A s.heap s σ H locs → lv_has ls 3 [(0, .ref (E.a 0)), (2, .int a2)] → fX12_late_c49 (fX12_late_c13 n13) a2 t0 σ = some (o1, o2) → W p l e rmX12_late s m args below meth c H locs 0 0 (MQ below (xQi E A o1 o2) args s 0 0 A) (F0 m 49 ls [.int t0]) := by
        intro a2 t0 σ H locs ls hw hl hf
        unfold fX12_late_c49 at hf
        refine lv_iconst (v := 0) hx hb dX12_late_49 (by decide) ?_
        refine lv_iadd hx hb dX12_late_50 ?_
        refine lv_topi (fun v9 ex => ?_)
        replace hf := xl_f hf v9 ex
        clear ex
        refine lv_istore_n (lv' := [(1, .int v9), (0, .ref (E.a 0)), (2, .int a2)]) hx hb dX12_late_51 rfl hl (by decide) rfl (fun ls hl => ?_)
        obtain ⟨v10, ex⟩ : ∃ y : Int32, y = (a2 + 1) := ⟨_, rfl⟩
        replace hf := xl_f hf v10 ex
        refine lv_iinc (v := v10) (lv' := [(2, .int v10), (1, .int v9), (0, .ref (E.a 0))]) hx hb dX12_late_52 hl (k := 2) rfl (by rw [ex]; rfl) (by decide) rfl (fun ls hl => ?_)
        clear ex
        refine lv_goto (tgt := 13) hx hb dX12_late_55 (by decide) ?_
        exact ih13 v9 v10 σ _ _ _ hw (lv_sub hl [2, 1, 0] rfl) hf
      intro a1 a2 σ H locs ls hw hl hf
      rw [fX12_late_c13_s] at hf
      refine lv_iload_n hx hb dX12_late_13 rfl (lv_at hl 2 rfl) ?_
      refine lv_aload_n hx hb dX12_late_14 rfl (lv_at hl 0 rfl) ?_
      refine x_getr hx hb hw (cM0 hE) (own := RX12) (ref := RX12) (C := RX12) (T := TX12) (N := 20) hts hiX12 hown rfl 1 (by decide) hk9 (fun _ h9 => h9) rfl dX12_late_15 ?_
      refine lv_bipush (v := 6) hx hb dX12_late_18 (by decide) ?_
      obtain ⟨hin, hf⟩ := xr_f hf
      refine x_iald hx hb hw (cM1 hE) hin dX12_late_20 ?_
      refine lv_topi (fun v4 ex => ?_)
      replace hf := hf v4 ex
      clear ex hin
      refine lv_icmp_ge (tgt := 58) hx hb dX12_late_21 (by decide) (fun c21 => ?_) (fun c21 => ?_)
      · replace hf := xif_pos c21 hf
        refine lv_iload_n hx hb dX12_late_58 rfl (lv_at hl 1 rfl) ?_
        exact x_iret hx hb hr hlk hw hf dX12_late_59
      · replace hf := xif_neg c21 hf
        refine lv_iload_n hx hb dX12_late_24 rfl (lv_at hl 1 rfl) ?_
        refine lv_aload_n hx hb dX12_late_25 rfl (lv_at hl 0 rfl) ?_
        refine x_getr hx hb hw (cM0 hE) (own := RX12) (ref := RX12) (C := RX12) (T := TX12) (N := 20) hts hiX12 hown rfl 9 (by decide) hk25 (fun _ h9 => h9) rfl dX12_late_26 ?_
        refine lv_iload_n hx hb dX12_late_29 rfl (lv_at hl 2 rfl) ?_
        obtain ⟨hin, hf⟩ := xr_f hf
        refine x_iald hx hb hw (cM6 hE) hin dX12_late_30 ?_
        refine lv_topi (fun v5 ex => ?_)
        replace hf := hf v5 ex
        clear ex hin
        refine lv_iconst (v := (-1)) hx hb dX12_late_31 (by decide) ?_
        refine lv_icmp_eq (tgt := 49) hx hb dX12_late_32 (by decide) (fun c32 => ?_) (fun c32 => ?_)
        · replace hf := xif_pos c32 hf
          exact h49 a2 a1 σ _ _ _ hw (lv_sub hl [0, 2] rfl) hf
        · replace hf := xif_neg c32 hf
          refine lv_aload_n hx hb dX12_late_35 rfl (lv_at hl 0 rfl) ?_
          refine x_getr hx hb hw (cM0 hE) (own := RX12) (ref := RX12) (C := RX12) (T := TX12) (N := 20) hts hiX12 hown rfl 11 (by decide) hk31 (fun _ h9 => h9) rfl dX12_late_36 ?_
          refine lv_iload_n hx hb dX12_late_39 rfl (lv_at hl 2 rfl) ?_
          obtain ⟨hin, hf⟩ := xr_f hf
          refine x_iald hx hb hw (cM8 hE) hin dX12_late_40 ?_
          refine lv_topi (fun v6 ex => ?_)
          replace hf := hf v6 ex
          clear ex hin
          refine lv_iconst (v := (-1)) hx hb dX12_late_41 (by decide) ?_
          refine lv_icmp_ne (tgt := 49) hx hb dX12_late_42 (by decide) (fun c42 => ?_) (fun c42 => ?_)
          · replace hf := xif_neg c42 hf
            exact h49 a2 a1 σ _ _ _ hw (lv_sub hl [0, 2] rfl) hf
          · replace hf := xif_pos c42 hf
            refine lv_iconst (v := 1) hx hb dX12_late_45 (by decide) ?_
            refine lv_goto (tgt := 50) hx hb dX12_late_46 (by decide) ?_
            refine lv_iadd hx hb dX12_late_50 ?_
            refine lv_topi (fun v7 ex => ?_)
            replace hf := xl_f hf v7 ex
            clear ex
            refine lv_istore_n (lv' := [(1, .int v7), (0, .ref (E.a 0)), (2, .int a2)]) hx hb dX12_late_51 rfl hl (by decide) rfl (fun ls hl => ?_)
            obtain ⟨v8, ex⟩ : ∃ y : Int32, y = (a2 + 1) := ⟨_, rfl⟩
            replace hf := xl_f hf v8 ex
            refine lv_iinc (v := v8) (lv' := [(2, .int v8), (1, .int v7), (0, .ref (E.a 0))]) hx hb dX12_late_52 hl (k := 2) rfl (by rw [ex]; rfl) (by decide) rfl (fun ls hl => ?_)
            clear ex
            refine lv_goto (tgt := 13) hx hb dX12_late_55 (by decide) ?_
            exact ih13 v7 v8 σ _ _ _ hw (lv_sub hl [2, 1, 0] rfl) hf
  refine lv_aload_n hx hb dX12_late_0 rfl (lv_at hl 0 rfl) ?_
  refine lv_iconst (v := 0) hx hb dX12_late_1 (by decide) ?_
  refine x_puti hx hb hw (cM0 hE) (own := RX12) (ref := RX12) (C := RX12) (T := TX12) (N := 20) hts hiX12 tyX12 tyX12_ok nmX12 hown rfl 0 (by decide) hk46 (fun _ h9 => h9) rfl (by decide +kernel) rfl dX12_late_2 (fun σ1 H locs ex hw => ?_)
  replace hf := xp_f hf σ1 ex
  clear ex
  refine lv_aload_n hx hb dX12_late_5 rfl (lv_at hl 0 rfl) ?_
  obtain ⟨σ3, hcl, hf⟩ := xc_e hf
  refine x_callv (va_runV (As := []) (rest := []) ⟨hx, hb, hml, hown, hts⟩ (mX12_plans hE σ1 σ3 hcl H.size) (cwV 0 hts gX12_late_X12_plans rfl rfl rfl (by decide +kernel) ⟨Nat.le_of_ble_eq_true rfl, Nat.le_of_ble_eq_true rfl⟩) (x_preV _ hw hA hG (cM0 hE) rfl) rfl rfl hl.1 rfl (lv_room (Nat.le_of_ble_eq_true rfl)) dX12_late_6 ⟨Nat.le_of_ble_eq_true rfl, Nat.le_of_ble_eq_true rfl⟩) hw hA (fun H locs hw => ?_)
  clear hcl
  refine lv_iconst (v := 0) hx hb dX12_late_9 (by decide) ?_
  refine lv_istore_n (lv' := [(1, .int 0), (0, .ref (E.a 0))]) hx hb dX12_late_10 rfl hl (by decide) rfl (fun ls hl => ?_)
  refine lv_iconst (v := 0) hx hb dX12_late_11 (by decide) ?_
  refine lv_istore_n (lv' := [(2, .int 0), (1, .int 0), (0, .ref (E.a 0))]) hx hb dX12_late_12 rfl hl (by decide) rfl (fun ls hl => ?_)
  exact h13 xFU 0 0 σ3 _ _ _ hw (lv_sub hl [2, 1, 0] rfl) hf

def fX12_breadAt (p0 : Int32) (p1 : Int32) (σ : xSt) : Option (Int32 × xSt) := some (((223 + (4 * p0)) + p1), σ)
abbrev rmX12_breadAt : Room := { frames := 0, cells := 0, slots := 0, locals := 0 }
set_option maxRecDepth 100000 in
set_option maxHeartbeats 4000000 in
theorem mX12_breadAt {l : Launch} {E : xE} (hE : E.sh = shM) (p0 : Int32) (p1 : Int32) (σ : xSt) (o1 : Int32) (o2 : xSt) (hf : fX12_breadAt p0 p1 σ = some (o1, o2)) : xMi l yX12_breadAt wsX12_breadAt rmX12_breadAt E [.ref (E.a 0), .int p0, .int p1] σ o1 o2 := by
  unfold fX12_breadAt at hf
  refine xMi_of (cc := cX12_breadAt) (maxL := 3) (ret := (some .int)) (by decide) rfl (Nat.le_of_ble_eq_true rfl) ?_
  intro p e s m args below meth c A ls ⟨hx, hb, hr, hml, hown, hts, hlk⟩ hA hG hw hl
  have hown : s.vm.findClass RX12 = some m.cls := hown
  have hl : lv_has ls 3 [(0, .ref (E.a 0)), (1, .int p0), (2, .int p1)] := hl
  refine lv_sipush (v := 223) hx hb dX12_breadAt_0 (by decide) ?_
  refine lv_iconst (v := 4) hx hb dX12_breadAt_3 (by decide) ?_
  refine lv_iload_n hx hb dX12_breadAt_4 rfl (lv_at hl 1 rfl) ?_
  refine lv_imul hx hb dX12_breadAt_5 ?_
  refine lv_iadd hx hb dX12_breadAt_6 ?_
  refine lv_iload_n hx hb dX12_breadAt_7 rfl (lv_at hl 2 rfl) ?_
  refine lv_iadd hx hb dX12_breadAt_8 ?_
  exact x_iret hx hb hr hlk hw hf dX12_breadAt_9

def fX12_breads (p0 : Int32) (p1 : Int32) (σ : xSt) : Option (Int32 × xSt) := (xc2 (fX12_isRecipe p0 σ) fun r1 σ2 => (xc2 (fX12_can r1 1 σ2) fun r3 σ4 => (if r3 = 0 then some (0, σ4) else (xc2 (fX12_in p1 0 3 σ4) fun r5 σ6 => (xc2 (fX12_can r5 2 σ6) fun r7 σ8 => (if r7 = 0 then some (0, σ8) else (xc2 (fX12_breadAt p0 p1 σ8) fun r9 σ10 => (xr σ10 1 680 r9 fun v11 => some (v11, σ10)))))))))
abbrev rmX12_breads : Room := { frames := 2, cells := 0, slots := 0, locals := 43 }
set_option maxRecDepth 100000 in
set_option maxHeartbeats 4000000 in
theorem mX12_breads {l : Launch} {E : xE} (hE : E.sh = shM) (p0 : Int32) (p1 : Int32) (σ : xSt) (o1 : Int32) (o2 : xSt) (hf : fX12_breads p0 p1 σ = some (o1, o2)) : xMi l yX12_breads wsX12_breads rmX12_breads E [.ref (E.a 0), .int p0, .int p1] σ o1 o2 := by
  unfold fX12_breads at hf
  refine xMi_of (cc := cX12_breads) (maxL := 3) (ret := (some .int)) (by decide) rfl (Nat.le_of_ble_eq_true rfl) ?_
  intro p e s m args below meth c A ls ⟨hx, hb, hr, hml, hown, hts, hlk⟩ hA hG hw hl
  have hown : s.vm.findClass RX12 = some m.cls := hown
  have hl : lv_has ls 3 [(0, .ref (E.a 0)), (1, .int p0), (2, .int p1)] := hl
  have hk9 := hts (.fieldLink RX12 9 "OvenRoundModel" "w" "[I") (by decide +kernel)
  have hiX12 : ∀ w ∈ wsX120, w ∈ wsX12_breads := by decide +kernel
  refine lv_aload_n hx hb dX12_breads_0 rfl (lv_at hl 0 rfl) ?_
  refine lv_aload_n hx hb dX12_breads_1 rfl (lv_at hl 0 rfl) ?_
  refine lv_iload_n hx hb dX12_breads_2 rfl (lv_at hl 1 rfl) ?_
  obtain ⟨r1, σ2, hcl, hf⟩ := xc2_f hf
  refine x_calli (va_runV (As := [.int p0]) (rest := [.ref (E.a 0)]) ⟨hx, hb, hml, hown, hts⟩ (mX12_isRecipe hE p0 σ r1 σ2 hcl s.heap.size) (cwV 1 hts gX12_breads_X12_isRecipe rfl rfl rfl (by decide +kernel) ⟨Nat.le_of_ble_eq_true rfl, Nat.le_of_ble_eq_true rfl⟩) (x_preV _ hw hA hG (cM0 hE) rfl) rfl rfl hl.1 rfl (lv_room (Nat.le_of_ble_eq_true rfl)) dX12_breads_3 ⟨Nat.le_of_ble_eq_true rfl, Nat.le_of_ble_eq_true rfl⟩) hw hA (fun H locs hw => ?_)
  clear hcl
  refine lv_iconst (v := 1) hx hb dX12_breads_6 (by decide) ?_
  obtain ⟨r3, σ4, hcl, hf⟩ := xc2_f hf
  refine x_calli (va_runV (As := [.int r1, .int 1]) (rest := []) ⟨hx, hb, hml, hown, hts⟩ (mX12_can hE r1 1 σ2 r3 σ4 hcl H.size) (cwV 2 hts gX12_breads_X12_can rfl rfl rfl (by decide +kernel) ⟨Nat.le_of_ble_eq_true rfl, Nat.le_of_ble_eq_true rfl⟩) (x_preV _ hw hA hG (cM0 hE) rfl) rfl rfl hl.1 rfl (lv_room (Nat.le_of_ble_eq_true rfl)) dX12_breads_7 ⟨Nat.le_of_ble_eq_true rfl, Nat.le_of_ble_eq_true rfl⟩) hw hA (fun H locs hw => ?_)
  clear hcl
  refine lv_if_eq (tgt := 41) hx hb dX12_breads_10 (by decide) (fun c10 => ?_) (fun c10 => ?_)
  · replace hf := xif_pos c10 hf
    refine lv_iconst (v := 0) hx hb dX12_breads_41 (by decide) ?_
    exact x_iret hx hb hr hlk hw hf dX12_breads_42
  · replace hf := xif_neg c10 hf
    refine lv_aload_n hx hb dX12_breads_13 rfl (lv_at hl 0 rfl) ?_
    refine lv_iload_n hx hb dX12_breads_14 rfl (lv_at hl 2 rfl) ?_
    refine lv_iconst (v := 0) hx hb dX12_breads_15 (by decide) ?_
    refine lv_iconst (v := 3) hx hb dX12_breads_16 (by decide) ?_
    obtain ⟨r5, σ6, hcl, hf⟩ := xc2_f hf
    refine x_calli (va_runS (As := [.int p1, .int 0, .int 3]) (rest := [.ref (E.a 0)]) ⟨hx, hb, hml, hown, hts⟩ (mX12_in hE p1 0 3 σ4 r5 σ6 hcl H.size) (va_cwS 3 hts gX12_breads_X12_in rfl rfl rfl (by decide +kernel) ⟨Nat.le_of_ble_eq_true rfl, Nat.le_of_ble_eq_true rfl⟩) (x_preS _ hw hA hG) rfl rfl hl.1 rfl (lv_room (Nat.le_of_ble_eq_true rfl)) dX12_breads_17 ⟨Nat.le_of_ble_eq_true rfl, Nat.le_of_ble_eq_true rfl⟩) hw hA (fun H locs hw => ?_)
    clear hcl
    refine lv_iconst (v := 2) hx hb dX12_breads_20 (by decide) ?_
    obtain ⟨r7, σ8, hcl, hf⟩ := xc2_f hf
    refine x_calli (va_runV (As := [.int r5, .int 2]) (rest := []) ⟨hx, hb, hml, hown, hts⟩ (mX12_can hE r5 2 σ6 r7 σ8 hcl H.size) (cwV 2 hts gX12_breads_X12_can rfl rfl rfl (by decide +kernel) ⟨Nat.le_of_ble_eq_true rfl, Nat.le_of_ble_eq_true rfl⟩) (x_preV _ hw hA hG (cM0 hE) rfl) rfl rfl hl.1 rfl (lv_room (Nat.le_of_ble_eq_true rfl)) dX12_breads_21 ⟨Nat.le_of_ble_eq_true rfl, Nat.le_of_ble_eq_true rfl⟩) hw hA (fun H locs hw => ?_)
    clear hcl
    refine lv_if_eq (tgt := 41) hx hb dX12_breads_24 (by decide) (fun c24 => ?_) (fun c24 => ?_)
    · replace hf := xif_pos c24 hf
      refine lv_iconst (v := 0) hx hb dX12_breads_41 (by decide) ?_
      exact x_iret hx hb hr hlk hw hf dX12_breads_42
    · replace hf := xif_neg c24 hf
      refine lv_aload_n hx hb dX12_breads_27 rfl (lv_at hl 0 rfl) ?_
      refine x_getr hx hb hw (cM0 hE) (own := RX12) (ref := RX12) (C := RX12) (T := TX12) (N := 20) hts hiX12 hown rfl 1 (by decide) hk9 (fun _ h9 => h9) rfl dX12_breads_28 ?_
      refine lv_aload_n hx hb dX12_breads_31 rfl (lv_at hl 0 rfl) ?_
      refine lv_iload_n hx hb dX12_breads_32 rfl (lv_at hl 1 rfl) ?_
      refine lv_iload_n hx hb dX12_breads_33 rfl (lv_at hl 2 rfl) ?_
      obtain ⟨r9, σ10, hcl, hf⟩ := xc2_f hf
      refine x_calli (va_runV (As := [.int p0, .int p1]) (rest := [.ref (E.a 1)]) ⟨hx, hb, hml, hown, hts⟩ (mX12_breadAt hE p0 p1 σ8 r9 σ10 hcl H.size) (cwV 2 hts gX12_breads_X12_breadAt rfl rfl rfl (by decide +kernel) ⟨Nat.le_of_ble_eq_true rfl, Nat.le_of_ble_eq_true rfl⟩) (x_preV _ hw hA hG (cM0 hE) rfl) rfl rfl hl.1 rfl (lv_room (Nat.le_of_ble_eq_true rfl)) dX12_breads_34 ⟨Nat.le_of_ble_eq_true rfl, Nat.le_of_ble_eq_true rfl⟩) hw hA (fun H locs hw => ?_)
      clear hcl
      obtain ⟨hin, hf⟩ := xr_f hf
      refine x_iald hx hb hw (cM1 hE) hin dX12_breads_37 ?_
      refine lv_topi (fun v11 ex => ?_)
      replace hf := hf v11 ex
      clear ex hin
      refine lv_goto (tgt := 42) hx hb dX12_breads_38 (by decide) ?_
      exact x_iret hx hb hr hlk hw hf dX12_breads_42
