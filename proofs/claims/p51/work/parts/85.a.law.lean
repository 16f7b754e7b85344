def fL_bounds_c187 : Nat → Int32 → Int32 → Int32 → Int32 → Int32 → xSt → Option ((Option (Int32 × Int32)) × xSt)
  | 0 => fun _ _ _ _ _ _ => none
  | n + 1 => fun a2 a6 a7 a8 a9 σ => (xr σ 55 4 a2 fun v19 => (if v19 < (a9 + a6) then (if a7 ≤ a8 then some (some (a7, a8), σ) else some (none, σ)) else (xl (a8 + 1) fun v20 => (xl (a9 + a6) fun v21 => fL_bounds_c187 n a2 a6 a7 v20 v21 σ))))
theorem fL_bounds_c187_s (n : Nat) (a2 : Int32) (a6 : Int32) (a7 : Int32) (a8 : Int32) (a9 : Int32) (σ : xSt) : fL_bounds_c187 (n + 1) a2 a6 a7 a8 a9 σ = ((xr σ 55 4 a2 fun v19 => (if v19 < (a9 + a6) then (if a7 ≤ a8 then some (some (a7, a8), σ) else some (none, σ)) else (xl (a8 + 1) fun v20 => (xl (a9 + a6) fun v21 => fL_bounds_c187 n a2 a6 a7 v20 v21 σ)))) : Option ((Option (Int32 × Int32)) × xSt)) := rfl
def fL_bounds_c156 : Nat → Int32 → Int32 → Int32 → Int32 → Int32 → Int32 → xSt → Option ((Option (Int32 × Int32)) × xSt)
  | 0 => fun _ _ _ _ _ _ _ => none
  | n + 1 => fun a2 a3 a5 a6 a7 a8 σ => (xr σ 54 4 a2 fun v16 => (if v16 ≤ a8 then fL_bounds_c187 xFU a2 a6 a7 a5 a3 σ else (xl (a7 + 1) fun v17 => (xl (a8 + a6) fun v18 => fL_bounds_c156 n a2 a3 a5 a6 v17 v18 σ))))
theorem fL_bounds_c156_s (n : Nat) (a2 : Int32) (a3 : Int32) (a5 : Int32) (a6 : Int32) (a7 : Int32) (a8 : Int32) (σ : xSt) : fL_bounds_c156 (n + 1) a2 a3 a5 a6 a7 a8 σ = ((xr σ 54 4 a2 fun v16 => (if v16 ≤ a8 then fL_bounds_c187 xFU a2 a6 a7 a5 a3 σ else (xl (a7 + 1) fun v17 => (xl (a8 + a6) fun v18 => fL_bounds_c156 n a2 a3 a5 a6 v17 v18 σ)))) : Option ((Option (Int32 × Int32)) × xSt)) := rfl
def fL_bounds_c114 (σ : xSt) : Option ((Option (Int32 × Int32)) × xSt) := some (none, σ)
def fL_bounds (p0 : Int32) (σ : xSt) : Option ((Option (Int32 × Int32)) × xSt) := (xco (fX11_doughAt p0 0 σ) σ fun r1 σ2 => (xco (fX11_doughAt p0 2 σ2) σ2 fun r3 σ4 => (xco (fX11_doughAt p0 3 σ4) σ4 fun r5 σ6 => (xcm (fX11_now σ6) σ6 fun r7 σ8 => (xrs xPts 6 (σ8 52 5) fun v9 => (if r5 = 1 then (xco (fX11_doughAt p0 5 σ8) σ8 fun r12 σ13 => (xr σ13 56 4 r1 fun v14 => (xl (r12 + v14) fun v15 => (if r7 ≤ v15 then some (some (r7, v15), σ13) else some (none, σ13))))) else (if r5 = 0 then (xr σ8 55 4 r1 fun v10 => (if r3 ≤ v10 then (if v9 = 0 then (xr σ8 54 4 r1 fun v11 => (if v11 ≤ r3 then some (some (r7, 1000000), σ8) else some (none, σ8))) else fL_bounds_c156 xFU r1 r3 r7 v9 r7 r3 σ8) else fL_bounds_c114 σ8)) else fL_bounds_c114 σ8)))))))
abbrev rmL_bounds : Room := { frames := 9, cells := 9, slots := 50, locals := 153 }
set_option maxRecDepth 100000 in
set_option maxHeartbeats 8000000 in
theorem mL_bounds {l : Launch} (hl0 : l.stackTraces = false) {E : xE} (hE : xLE E) (p0 : Int32) (σ : xSt) (o1 : (Option (Int32 × Int32))) (o2 : xSt) (hf : fL_bounds p0 σ = some (o1, o2)) : xLb l yL_bounds wsL_bounds rmL_bounds E [.ref (E.a 52), .int p0] σ o1 o2 9 50 := by
  unfold fL_bounds at hf
  refine xLb_of (cc := cL_bounds) (maxL := 10) (ret := (some (.array .int))) (by decide) rfl (Nat.le_of_ble_eq_true rfl) ?_
  intro p e s m args below meth c A ls ⟨hx, hb, hr, hml, hown, hts, hlk⟩ hA hGL hw hl
  have hG := hGL.1
  have hown : s.vm.findClass RL = some m.cls := hown
  have hl : lv_has ls 10 [(0, .ref (E.a 52)), (1, .int p0)] := hl
  have hk10 := hts (.fieldLink RL 10 "OvenRoundLaw" "o" "LOvenRound;") (by decide +kernel)
  have hiL : ∀ w ∈ wsL0, w ∈ wsL_bounds := by decide +kernel
  have hk139 := hts (.fieldLink RL 139 "OvenRoundLaw" "warmth" "I") (by decide +kernel)
  have hk20 := hts (.fieldLink RL 20 "OvenRoundLaw" "high" "[I") (by decide +kernel)
  have hk16 := hts (.fieldLink RL 16 "OvenRoundLaw" "low" "[I") (by decide +kernel)
  have hk23 := hts (.fieldLink RL 23 "OvenRoundLaw" "wait" "[I") (by decide +kernel)
  have h187 : ∀ (n : Nat) (a2 : Int32) (a6 : Int32) (a7 : Int32) (a8 : Int32) (a9 : Int32) (σ : xSt) (H : Heap) (locs : List Loc) (ls : Array Slot) (nc ns : Nat), xw E A s.heap s σ H locs → lv_has ls 10 [(0, .ref (E.a 52)), (2, .int a2), (6, .int a6), (7, .int a7), (8, .int a8), (9, .int a9)] → fL_bounds_c187 n a2 a6 a7 a8 a9 σ = some (o1, o2) → nc + (1) ≤ 9 → ns + (2) ≤ 50 → W p l e rmL_bounds s m args below meth c H locs nc ns (MQ below (xQb E A o1 o2) args s 9 50 A) (F0 m 187 ls []) := by
    intro n187
    induction n187 with
    | zero => intro a2 a6 a7 a8 a9 σ H locs ls nc ns hw hl hf hnc hns; exact nomatch hf
    | succ n187 ih187 =>
      intro a2 a6 a7 a8 a9 σ H locs ls nc ns hw hl hf hnc hns
      rw [fL_bounds_c187_s] at hf
      refine lv_iload hx hb dL_bounds_187 (lv_at hl 5 rfl) ?_
      refine lv_iload hx hb dL_bounds_189 (lv_at hl 2 rfl) ?_
      refine lv_iadd hx hb dL_bounds_191 ?_
      refine lv_aload_n hx hb dL_bounds_192 rfl (lv_at hl 0 rfl) ?_
      refine x_getr hx hb hw (cL52 hE) (own := RL) (ref := RL) (C := RL) (T := TL) (N := 10) hts hiL hown rfl 7 (by decide) hk20 (fun _ h9 => h9) rfl dL_bounds_193 ?_
      refine lv_iload_n hx hb dL_bounds_196 rfl (lv_at hl 1 rfl) ?_
      obtain ⟨hin, hf⟩ := xr_f hf
      refine x_iald hx hb hw (cL55 hE) hin dL_bounds_197 ?_
      refine lv_topi (fun v19 ex => ?_)
      replace hf := hf v19 ex
      clear ex hin
      refine lv_icmp_gt (tgt := 214) hx hb dL_bounds_198 (by decide) (fun c198 => ?_) (fun c198 => ?_)
      · replace hf := xif_pos c198 hf
        refine lv_iload hx hb dL_bounds_214 (lv_at hl 3 rfl) ?_
        refine lv_iload hx hb dL_bounds_216 (lv_at hl 4 rfl) ?_
        refine lv_icmp_le (tgt := 225) hx hb dL_bounds_218 (by decide) (fun c218 => ?_) (fun c218 => ?_)
        · replace hf := xif_pos c218 hf
          refine lv_iconst (v := 2) hx hb dL_bounds_225 (by decide) ?_
          have hw : xw (xPlus E []) A s.heap s σ H _ := (by rw [xPlus_nil]; exact hw)
          refine x_newX hx hb (hts (.arrayClass .int) (by decide +kernel)) hw hA (N' := 2) (by decide) (by decide) (Nat.le_of_ble_eq_true rfl) (show nc + 1 ≤ 9 by omega) (show ns + 2 ≤ 50 by omega) dL_bounds_226 (fun q H hw => ?_)
          refine lv_dup hx hb dL_bounds_228 rfl ?_
          refine lv_iconst (v := 0) hx hb dL_bounds_229 (by decide) ?_
          refine lv_iload hx hb dL_bounds_230 (lv_at hl 3 rfl) ?_
          refine x_rst hx hb hw (k := 0) rfl (i := 0) (xin_vp (by decide)) dL_bounds_232 (fun H locs hw => ?_)
          have hw : xw (xPlus E [(q, xInts E.cA 2 (upd (fun _ => 0) 0 a7))]) A s.heap s σ H locs := hw
          refine lv_dup hx hb dL_bounds_233 rfl ?_
          refine lv_iconst (v := 1) hx hb dL_bounds_234 (by decide) ?_
          refine lv_iload hx hb dL_bounds_235 (lv_at hl 4 rfl) ?_
          refine x_rst hx hb hw (k := 0) rfl (i := 1) (xin_vp (by decide)) dL_bounds_237 (fun H locs hw => ?_)
          have hw : xw (xPlus E [(q, xInts E.cA 2 (upd (upd (fun _ => 0) 0 a7) 1 a8))]) A s.heap s σ H locs := hw
          exact x_Brow hx hb hr hlk hw hf (show (nc + 1) ≤ 9 by omega) (show (ns + 2) ≤ 50 by omega) dL_bounds_238
        · replace hf := xif_neg c218 hf
          refine lv_null hx hb dL_bounds_221 ?_
          refine lv_goto (tgt := 238) hx hb dL_bounds_222 (by decide) ?_
          exact x_Bnull hx hb hr hlk hw hf (show nc ≤ 9 by omega) (show ns ≤ 50 by omega) dL_bounds_238
      · replace hf := xif_neg c198 hf
        obtain ⟨v20, ex⟩ : ∃ y : Int32, y = (a8 + 1) := ⟨_, rfl⟩
        replace hf := xl_f hf v20 ex
        refine lv_iinc (v := v20) (lv' := [(8, .int v20), (0, .ref (E.a 52)), (2, .int a2), (6, .int a6), (7, .int a7), (9, .int a9)]) hx hb dL_bounds_201 hl (k := 4) rfl (by rw [ex]; rfl) (by decide) rfl (fun ls hl => ?_)
        clear ex
        refine lv_iload hx hb dL_bounds_204 (lv_at hl 5 rfl) ?_
        refine lv_iload hx hb dL_bounds_206 (lv_at hl 3 rfl) ?_
        refine lv_iadd hx hb dL_bounds_208 ?_
        refine lv_topi (fun v21 ex => ?_)
        replace hf := xl_f hf v21 ex
        clear ex
        refine lv_istore (lv' := [(9, .int v21), (8, .int v20), (0, .ref (E.a 52)), (2, .int a2), (6, .int a6), (7, .int a7)]) hx hb dL_bounds_209 hl (by decide) rfl (fun ls hl => ?_)
        refine lv_goto (tgt := 187) hx hb dL_bounds_211 (by decide) ?_
        exact ih187 a2 a6 a7 v20 v21 σ _ _ _ nc ns hw (lv_sub hl [2, 3, 4, 5, 1, 0] rfl) hf (by omega) (by omega)
  have h156 : ∀ (n : Nat) (a2 : Int32) (a3 : Int32) (a5 : Int32) (a6 : Int32) (a7 : Int32) (a8 : Int32) (σ : xSt) (H : Heap) (locs : List Loc) (ls : Array Slot) (nc ns : Nat), xw E A s.heap s σ H locs → lv_has ls 10 [(0, .ref (E.a 52)), (2, .int a2), (3, .int a3), (5, .int a5), (6, .int a6), (7, .int a7), (8, .int a8)] → fL_bounds_c156 n a2 a3 a5 a6 a7 a8 σ = some (o1, o2) → nc + (1) ≤ 9 → ns + (2) ≤ 50 → W p l e rmL_bounds s m args below meth c H locs nc ns (MQ below (xQb E A o1 o2) args s 9 50 A) (F0 m 156 ls []) := by
    intro n156
    induction n156 with
    | zero => intro a2 a3 a5 a6 a7 a8 σ H locs ls nc ns hw hl hf hnc hns; exact nomatch hf
    | succ n156 ih156 =>
      intro a2 a3 a5 a6 a7 a8 σ H locs ls nc ns hw hl hf hnc hns
      rw [fL_bounds_c156_s] at hf
      refine lv_iload hx hb dL_bounds_156 (lv_at hl 6 rfl) ?_
      refine lv_aload_n hx hb dL_bounds_158 rfl (lv_at hl 0 rfl) ?_
      refine x_getr hx hb hw (cL52 hE) (own := RL) (ref := RL) (C := RL) (T := TL) (N := 10) hts hiL hown rfl 6 (by decide) hk16 (fun _ h9 => h9) rfl dL_bounds_159 ?_
      refine lv_iload_n hx hb dL_bounds_162 rfl (lv_at hl 1 rfl) ?_
      obtain ⟨hin, hf⟩ := xr_f hf
      refine x_iald hx hb hw (cL54 hE) hin dL_bounds_163 ?_
      refine lv_topi (fun v16 ex => ?_)
      replace hf := hf v16 ex
      clear ex hin
      refine lv_icmp_ge (tgt := 180) hx hb dL_bounds_164 (by decide) (fun c164 => ?_) (fun c164 => ?_)
      · replace hf := xif_pos c164 hf
        refine lv_iload hx hb dL_bounds_180 (lv_at hl 3 rfl) ?_
        refine lv_istore (lv' := [(8, .int a5), (0, .ref (E.a 52)), (2, .int a2), (3, .int a3), (5, .int a5), (6, .int a6), (7, .int a7)]) hx hb dL_bounds_182 hl (by decide) rfl (fun ls hl => ?_)
        refine lv_iload_n hx hb dL_bounds_184 rfl (lv_at hl 3 rfl) ?_
        refine lv_istore (lv' := [(9, .int a3), (8, .int a5), (0, .ref (E.a 52)), (2, .int a2), (3, .int a3), (5, .int a5), (6, .int a6), (7, .int a7)]) hx hb dL_bounds_185 hl (by decide) rfl (fun ls hl => ?_)
        exact h187 xFU a2 a6 a7 a5 a3 σ _ _ _ nc ns hw (lv_sub hl [2, 3, 6, 7, 1, 0] rfl) hf (by omega) (by omega)
      · replace hf := xif_neg c164 hf
        obtain ⟨v17, ex⟩ : ∃ y : Int32, y = (a7 + 1) := ⟨_, rfl⟩
        replace hf := xl_f hf v17 ex
        refine lv_iinc (v := v17) (lv' := [(7, .int v17), (0, .ref (E.a 52)), (2, .int a2), (3, .int a3), (5, .int a5), (6, .int a6), (8, .int a8)]) hx hb dL_bounds_167 hl (k := 5) rfl (by rw [ex]; rfl) (by decide) rfl (fun ls hl => ?_)
        clear ex
        refine lv_iload hx hb dL_bounds_170 (lv_at hl 6 rfl) ?_
        refine lv_iload hx hb dL_bounds_172 (lv_at hl 5 rfl) ?_
        refine lv_iadd hx hb dL_bounds_174 ?_
        refine lv_topi (fun v18 ex => ?_)
        replace hf := xl_f hf v18 ex
        clear ex
        refine lv_istore (lv' := [(8, .int v18), (7, .int v17), (0, .ref (E.a 52)), (2, .int a2), (3, .int a3), (5, .int a5), (6, .int a6)]) hx hb dL_bounds_175 hl (by decide) rfl (fun ls hl => ?_)
        refine lv_goto (tgt := 156) hx hb dL_bounds_177 (by decide) ?_
        exact ih156 a2 a3 a5 a6 v17 v18 σ _ _ _ nc ns hw (lv_sub hl [2, 3, 4, 5, 6, 1, 0] rfl) hf (by omega) (by omega)
  have h114 : ∀ (σ : xSt) (H : Heap) (locs : List Loc) (ls : Array Slot) (nc ns : Nat), xw E A s.heap s σ H locs → lv_has ls 10 [] → fL_bounds_c114 σ = some (o1, o2) → nc + (0) ≤ 9 → ns + (0) ≤ 50 → W p l e rmL_bounds s m args below meth c H locs nc ns (MQ below (xQb E A o1 o2) args s 9 50 A) (F0 m 114 ls []) := by
    intro σ H locs ls nc ns hw hl hf hnc hns
    unfold fL_bounds_c114 at hf
    refine lv_null hx hb dL_bounds_114 ?_
    exact x_Bnull hx hb hr hlk hw hf (show nc ≤ 9 by omega) (show ns ≤ 50 by omega) dL_bounds_115
  refine lv_aload_n hx hb dL_bounds_0 rfl (lv_at hl 0 rfl) ?_
  refine x_getr hx hb hw (cL52 hE) (own := RL) (ref := RL) (C := RL) (T := TL) (N := 10) hts hiL hown rfl 0 (by decide) hk10 (fun _ h9 => h9) rfl dL_bounds_1 ?_
  refine lv_iload_n hx hb dL_bounds_4 rfl (lv_at hl 1 rfl) ?_
  refine lv_iconst (v := 0) hx hb dL_bounds_5 (by decide) ?_
  obtain ⟨r1, τ9, hcl, hf⟩ := xco_g hf
  refine x_tcallo (vx_runV (As := [.int p0, .int 0]) (rest := []) ⟨hx, hb, hml, hown, hts⟩ (mX11_doughAt hl0 (E := xCut E σ) rfl p0 0 σ (.inl r1) τ9 hcl s.heap.size) (cwV 2 hts gL_bounds_X11_doughAt rfl rfl rfl (by decide +kernel) ⟨Nat.le_of_ble_eq_true rfl, Nat.le_of_ble_eq_true rfl⟩) (x_preV _ (xw_cut hE hw) hA hG (cX0 (E := xCut E σ) rfl) rfl) rfl rfl hl.1 rfl (lv_room (Nat.le_of_ble_eq_true rfl)) dL_bounds_6 ⟨show 0 + 2 ≤ 9 by omega, show 0 + 12 ≤ 50 by omega⟩) (xw_cut hE hw) hA (fun H locs hw => ?_)
  obtain ⟨σ2, eρ, hw⟩ := xw_unc2 hE hw
  replace hf := hf σ2 eρ
  clear eρ hcl
  refine lv_istore_n (lv' := [(2, .int r1), (0, .ref (E.a 52)), (1, .int p0)]) hx hb dL_bounds_9 rfl hl (by decide) rfl (fun ls hl => ?_)
  refine lv_aload_n hx hb dL_bounds_10 rfl (lv_at hl 1 rfl) ?_
  refine x_getr hx hb hw (cL52 hE) (own := RL) (ref := RL) (C := RL) (T := TL) (N := 10) hts hiL hown rfl 0 (by decide) hk10 (fun _ h9 => h9) rfl dL_bounds_11 ?_
  refine lv_iload_n hx hb dL_bounds_14 rfl (lv_at hl 2 rfl) ?_
  refine lv_iconst (v := 2) hx hb dL_bounds_15 (by decide) ?_
  obtain ⟨r3, τ9, hcl, hf⟩ := xco_g hf
  refine x_tcallo (vx_runV (As := [.int p0, .int 2]) (rest := []) ⟨hx, hb, hml, hown, hts⟩ (mX11_doughAt hl0 (E := xCut E σ2) rfl p0 2 σ2 (.inl r3) τ9 hcl H.size) (cwV 2 hts gL_bounds_X11_doughAt rfl rfl rfl (by decide +kernel) ⟨Nat.le_of_ble_eq_true rfl, Nat.le_of_ble_eq_true rfl⟩) (x_preV _ (xw_cut hE hw) hA hG (cX0 (E := xCut E σ2) rfl) rfl) rfl rfl hl.1 rfl (lv_room (Nat.le_of_ble_eq_true rfl)) dL_bounds_16 ⟨show (0 + 2) + 2 ≤ 9 by omega, show (0 + 12) + 12 ≤ 50 by omega⟩) (xw_cut hE hw) hA (fun H locs hw => ?_)
  obtain ⟨σ4, eρ, hw⟩ := xw_unc2 hE hw
  replace hf := hf σ4 eρ
  clear eρ hcl
  refine lv_istore_n (lv' := [(3, .int r3), (2, .int r1), (0, .ref (E.a 52)), (1, .int p0)]) hx hb dL_bounds_19 rfl hl (by decide) rfl (fun ls hl => ?_)
  refine lv_aload_n hx hb dL_bounds_20 rfl (lv_at hl 2 rfl) ?_
  refine x_getr hx hb hw (cL52 hE) (own := RL) (ref := RL) (C := RL) (T := TL) (N := 10) hts hiL hown rfl 0 (by decide) hk10 (fun _ h9 => h9) rfl dL_bounds_21 ?_
  refine lv_iload_n hx hb dL_bounds_24 rfl (lv_at hl 3 rfl) ?_
  refine lv_iconst (v := 3) hx hb dL_bounds_25 (by decide) ?_
  obtain ⟨r5, τ9, hcl, hf⟩ := xco_g hf
  refine x_tcallo (vx_runV (As := [.int p0, .int 3]) (rest := []) ⟨hx, hb, hml, hown, hts⟩ (mX11_doughAt hl0 (E := xCut E σ4) rfl p0 3 σ4 (.inl r5) τ9 hcl H.size) (cwV 2 hts gL_bounds_X11_doughAt rfl rfl rfl (by decide +kernel) ⟨Nat.le_of_ble_eq_true rfl, Nat.le_of_ble_eq_true rfl⟩) (x_preV _ (xw_cut hE hw) hA hG (cX0 (E := xCut E σ4) rfl) rfl) rfl rfl hl.1 rfl (lv_room (Nat.le_of_ble_eq_true rfl)) dL_bounds_26 ⟨show ((0 + 2) + 2) + 2 ≤ 9 by omega, show ((0 + 12) + 12) + 12 ≤ 50 by omega⟩) (xw_cut hE hw) hA (fun H locs hw => ?_)
  obtain ⟨σ6, eρ, hw⟩ := xw_unc2 hE hw
  replace hf := hf σ6 eρ
  clear eρ hcl
  refine lv_istore (lv' := [(4, .int r5), (3, .int r3), (2, .int r1), (0, .ref (E.a 52)), (1, .int p0)]) hx hb dL_bounds_29 hl (by decide) rfl (fun ls hl => ?_)
  refine lv_aload_n hx hb dL_bounds_31 rfl (lv_at hl 3 rfl) ?_
  refine x_getr hx hb hw (cL52 hE) (own := RL) (ref := RL) (C := RL) (T := TL) (N := 10) hts hiL hown rfl 0 (by decide) hk10 (fun _ h9 => h9) rfl dL_bounds_32 ?_
  obtain ⟨r7, τ9, hcl, hf⟩ := xcm_g hf
  refine x_calli (va_runV (As := []) (rest := []) ⟨hx, hb, hml, hown, hts⟩ (mX11_now (E := xCut E σ6) rfl  σ6 r7 τ9 hcl H.size) (cwV 0 hts gL_bounds_X11_now rfl rfl rfl (by decide +kernel) ⟨Nat.le_of_ble_eq_true rfl, Nat.le_of_ble_eq_true rfl⟩) (x_preV _ (xw_cut hE hw) hA hG (cX0 (E := xCut E σ6) rfl) rfl) rfl rfl hl.1 rfl (lv_room (Nat.le_of_ble_eq_true rfl)) dL_bounds_35 ⟨show (((0 + 2) + 2) + 2) + 0 ≤ 9 by omega, show (((0 + 12) + 12) + 12) + 0 ≤ 50 by omega⟩) (xw_cut hE hw) hA (fun H locs hw => ?_)
  obtain ⟨σ8, eρ, hw⟩ := xw_unc2 hE hw
  replace hf := hf σ8 eρ
  clear eρ hcl
  refine lv_istore (lv' := [(5, .int r7), (4, .int r5), (3, .int r3), (2, .int r1), (0, .ref (E.a 52)), (1, .int p0)]) hx hb dL_bounds_38 hl (by decide) rfl (fun ls hl => ?_)
  refine va_gets hx hb hGL.2.1.1 hw.2.2.2 hown (hts (.fieldLink RL 136 "OvenRoundLaw" "GAINS" "[I") (by decide +kernel)) (fun _ h9 => h9) dL_bounds_40 ?_
  refine lv_aload_n hx hb dL_bounds_43 rfl (lv_at hl 4 rfl) ?_
  refine x_geti hx hb hw (cL52 hE) (own := RL) (ref := RL) (C := RL) (T := TL) (N := 10) hts hiL hown rfl 5 (by decide) hk139 (fun _ h9 => h9) rfl dL_bounds_44 ?_
  obtain ⟨hin, hf⟩ := xrs_f hf
  refine va_ti hx hb hGL.2.1.2 hw.2.2.2 hin rfl dL_bounds_47 ?_
  refine lv_topi (fun v9 ex => ?_)
  replace hf := hf v9 ex
  clear ex hin
  refine lv_istore (lv' := [(6, .int v9), (5, .int r7), (4, .int r5), (3, .int r3), (2, .int r1), (0, .ref (E.a 52)), (1, .int p0)]) hx hb dL_bounds_48 hl (by decide) rfl (fun ls hl => ?_)
  refine lv_iload hx hb dL_bounds_50 (lv_at hl 2 rfl) ?_
  refine lv_iconst (v := 1) hx hb dL_bounds_52 (by decide) ?_
  refine lv_icmp_ne (tgt := 99) hx hb dL_bounds_53 (by decide) (fun c53 => ?_) (fun c53 => ?_)
  · replace hf := xif_neg c53 hf
    refine lv_iload hx hb dL_bounds_99 (lv_at hl 2 rfl) ?_
    refine lv_if_ne (tgt := 114) hx hb dL_bounds_101 (by decide) (fun c101 => ?_) (fun c101 => ?_)
    · replace hf := xif_neg c101 hf
      exact h114  σ8 _ _ _ (((0 + 2) + 2) + 2) (((0 + 12) + 12) + 12) hw (lv_sub hl [] rfl) hf (by omega) (by omega)
    · replace hf := xif_pos c101 hf
      refine lv_iload_n hx hb dL_bounds_104 rfl (lv_at hl 3 rfl) ?_
      refine lv_aload_n hx hb dL_bounds_105 rfl (lv_at hl 5 rfl) ?_
      refine x_getr hx hb hw (cL52 hE) (own := RL) (ref := RL) (C := RL) (T := TL) (N := 10) hts hiL hown rfl 7 (by decide) hk20 (fun _ h9 => h9) rfl dL_bounds_106 ?_
      refine lv_iload_n hx hb dL_bounds_109 rfl (lv_at hl 4 rfl) ?_
      obtain ⟨hin, hf⟩ := xr_f hf
      refine x_iald hx hb hw (cL55 hE) hin dL_bounds_110 ?_
      refine lv_topi (fun v10 ex => ?_)
      replace hf := hf v10 ex
      clear ex hin
      refine lv_icmp_le (tgt := 116) hx hb dL_bounds_111 (by decide) (fun c111 => ?_) (fun c111 => ?_)
      · replace hf := xif_pos c111 hf
        refine lv_iload hx hb dL_bounds_116 (lv_at hl 0 rfl) ?_
        refine lv_if_ne (tgt := 149) hx hb dL_bounds_118 (by decide) (fun c118 => ?_) (fun c118 => ?_)
        · replace hf := xif_neg c118 hf
          refine lv_iload hx hb dL_bounds_149 (lv_at hl 1 rfl) ?_
          refine lv_istore (lv' := [(7, .int r7), (6, .int v9), (5, .int r7), (4, .int r5), (3, .int r3), (2, .int r1), (0, .ref (E.a 52)), (1, .int p0)]) hx hb dL_bounds_151 hl (by decide) rfl (fun ls hl => ?_)
          refine lv_iload_n hx hb dL_bounds_153 rfl (lv_at hl 4 rfl) ?_
          refine lv_istore (lv' := [(8, .int r3), (7, .int r7), (6, .int v9), (5, .int r7), (4, .int r5), (3, .int r3), (2, .int r1), (0, .ref (E.a 52)), (1, .int p0)]) hx hb dL_bounds_154 hl (by decide) rfl (fun ls hl => ?_)
          exact h156 xFU r1 r3 r7 v9 r7 r3 σ8 _ _ _ (((0 + 2) + 2) + 2) (((0 + 12) + 12) + 12) hw (lv_sub hl [7, 6, 5, 3, 2, 1, 0] rfl) hf (by omega) (by omega)
        · replace hf := xif_pos c118 hf
          refine lv_iload_n hx hb dL_bounds_121 rfl (lv_at hl 3 rfl) ?_
          refine lv_aload_n hx hb dL_bounds_122 rfl (lv_at hl 5 rfl) ?_
          refine x_getr hx hb hw (cL52 hE) (own := RL) (ref := RL) (C := RL) (T := TL) (N := 10) hts hiL hown rfl 6 (by decide) hk16 (fun _ h9 => h9) rfl dL_bounds_123 ?_
          refine lv_iload_n hx hb dL_bounds_126 rfl (lv_at hl 4 rfl) ?_
          obtain ⟨hin, hf⟩ := xr_f hf
          refine x_iald hx hb hw (cL54 hE) hin dL_bounds_127 ?_
          refine lv_topi (fun v11 ex => ?_)
          replace hf := hf v11 ex
          clear ex hin
          refine lv_icmp_ge (tgt := 135) hx hb dL_bounds_128 (by decide) (fun c128 => ?_) (fun c128 => ?_)
          · replace hf := xif_pos c128 hf
            refine lv_iconst (v := 2) hx hb dL_bounds_135 (by decide) ?_
            have hw : xw (xPlus E []) A s.heap s σ8 H _ := (by rw [xPlus_nil]; exact hw)
            refine x_newX hx hb (hts (.arrayClass .int) (by decide +kernel)) hw hA (N' := 2) (by decide) (by decide) (Nat.le_of_ble_eq_true rfl) (show (((0 + 2) + 2) + 2) + 1 ≤ 9 by omega) (show (((0 + 12) + 12) + 12) + 2 ≤ 50 by omega) dL_bounds_136 (fun q H hw => ?_)
            refine lv_dup hx hb dL_bounds_138 rfl ?_
            refine lv_iconst (v := 0) hx hb dL_bounds_139 (by decide) ?_
            refine lv_iload hx hb dL_bounds_140 (lv_at hl 1 rfl) ?_
            refine x_rst hx hb hw (k := 0) rfl (i := 0) (xin_vp (by decide)) dL_bounds_142 (fun H locs hw => ?_)
            have hw : xw (xPlus E [(q, xInts E.cA 2 (upd (fun _ => 0) 0 r7))]) A s.heap s σ8 H locs := hw
            refine lv_dup hx hb dL_bounds_143 rfl ?_
            refine lv_iconst (v := 1) hx hb dL_bounds_144 (by decide) ?_
            refine lv_ldc hx hb hown (hts (.constant RL 142 (1000000)) (by decide +kernel)) dL_bounds_145 ?_
            refine x_rst hx hb hw (k := 0) rfl (i := 1) (xin_vp (by decide)) dL_bounds_147 (fun H locs hw => ?_)
            have hw : xw (xPlus E [(q, xInts E.cA 2 (upd (upd (fun _ => 0) 0 r7) 1 1000000))]) A s.heap s σ8 H locs := hw
            exact x_Brow hx hb hr hlk hw hf (show ((((0 + 2) + 2) + 2) + 1) ≤ 9 by omega) (show ((((0 + 12) + 12) + 12) + 2) ≤ 50 by omega) dL_bounds_148
          · replace hf := xif_neg c128 hf
            refine lv_null hx hb dL_bounds_131 ?_
            refine lv_goto (tgt := 148) hx hb dL_bounds_132 (by decide) ?_
            exact x_Bnull hx hb hr hlk hw hf (show (((0 + 2) + 2) + 2) ≤ 9 by omega) (show (((0 + 12) + 12) + 12) ≤ 50 by omega) dL_bounds_148
      · replace hf := xif_neg c111 hf
        exact h114  σ8 _ _ _ (((0 + 2) + 2) + 2) (((0 + 12) + 12) + 12) hw (lv_sub hl [] rfl) hf (by omega) (by omega)
  · replace hf := xif_pos c53 hf
    refine lv_aload_n hx hb dL_bounds_56 rfl (lv_at hl 5 rfl) ?_
    refine x_getr hx hb hw (cL52 hE) (own := RL) (ref := RL) (C := RL) (T := TL) (N := 10) hts hiL hown rfl 0 (by decide) hk10 (fun _ h9 => h9) rfl dL_bounds_57 ?_
    refine lv_iload_n hx hb dL_bounds_60 rfl (lv_at hl 6 rfl) ?_
    refine lv_iconst (v := 5) hx hb dL_bounds_61 (by decide) ?_
    obtain ⟨r12, τ9, hcl, hf⟩ := xco_g hf
    refine x_tcallo (vx_runV (As := [.int p0, .int 5]) (rest := []) ⟨hx, hb, hml, hown, hts⟩ (mX11_doughAt hl0 (E := xCut E σ8) rfl p0 5 σ8 (.inl r12) τ9 hcl H.size) (cwV 2 hts gL_bounds_X11_doughAt rfl rfl rfl (by decide +kernel) ⟨Nat.le_of_ble_eq_true rfl, Nat.le_of_ble_eq_true rfl⟩) (x_preV _ (xw_cut hE hw) hA hG (cX0 (E := xCut E σ8) rfl) rfl) rfl rfl hl.1 rfl (lv_room (Nat.le_of_ble_eq_true rfl)) dL_bounds_62 ⟨show (((0 + 2) + 2) + 2) + 2 ≤ 9 by omega, show (((0 + 12) + 12) + 12) + 12 ≤ 50 by omega⟩) (xw_cut hE hw) hA (fun H locs hw => ?_)
    obtain ⟨σ13, eρ, hw⟩ := xw_unc2 hE hw
    replace hf := hf σ13 eρ
    clear eρ hcl
    refine lv_aload_n hx hb dL_bounds_65 rfl (lv_at hl 5 rfl) ?_
    refine x_getr hx hb hw (cL52 hE) (own := RL) (ref := RL) (C := RL) (T := TL) (N := 10) hts hiL hown rfl 8 (by decide) hk23 (fun _ h9 => h9) rfl dL_bounds_66 ?_
    refine lv_iload_n hx hb dL_bounds_69 rfl (lv_at hl 4 rfl) ?_
    obtain ⟨hin, hf⟩ := xr_f hf
    refine x_iald hx hb hw (cL56 hE) hin dL_bounds_70 ?_
    refine lv_topi (fun v14 ex => ?_)
    replace hf := hf v14 ex
    clear ex hin
    refine lv_iadd hx hb dL_bounds_71 ?_
    refine lv_topi (fun v15 ex => ?_)
    replace hf := xl_f hf v15 ex
    clear ex
    refine lv_istore (lv' := [(7, .int v15), (6, .int v9), (5, .int r7), (4, .int r5), (3, .int r3), (2, .int r1), (0, .ref (E.a 52)), (1, .int p0)]) hx hb dL_bounds_72 hl (by decide) rfl (fun ls hl => ?_)
    refine lv_iload hx hb dL_bounds_74 (lv_at hl 0 rfl) ?_
    refine lv_iload hx hb dL_bounds_76 (lv_at hl 2 rfl) ?_
    refine lv_icmp_ge (tgt := 85) hx hb dL_bounds_78 (by decide) (fun c78 => ?_) (fun c78 => ?_)
    · replace hf := xif_pos c78 hf
      refine lv_iconst (v := 2) hx hb dL_bounds_85 (by decide) ?_
      have hw : xw (xPlus E []) A s.heap s σ13 H _ := (by rw [xPlus_nil]; exact hw)
      refine x_newX hx hb (hts (.arrayClass .int) (by decide +kernel)) hw hA (N' := 2) (by decide) (by decide) (Nat.le_of_ble_eq_true rfl) (show ((((0 + 2) + 2) + 2) + 2) + 1 ≤ 9 by omega) (show ((((0 + 12) + 12) + 12) + 12) + 2 ≤ 50 by omega) dL_bounds_86 (fun q H hw => ?_)
      refine lv_dup hx hb dL_bounds_88 rfl ?_
      refine lv_iconst (v := 0) hx hb dL_bounds_89 (by decide) ?_
      refine lv_iload hx hb dL_bounds_90 (lv_at hl 2 rfl) ?_
      refine x_rst hx hb hw (k := 0) rfl (i := 0) (xin_vp (by decide)) dL_bounds_92 (fun H locs hw => ?_)
      have hw : xw (xPlus E [(q, xInts E.cA 2 (upd (fun _ => 0) 0 r7))]) A s.heap s σ13 H locs := hw
      refine lv_dup hx hb dL_bounds_93 rfl ?_
      refine lv_iconst (v := 1) hx hb dL_bounds_94 (by decide) ?_
      refine lv_iload hx hb dL_bounds_95 (lv_at hl 0 rfl) ?_
      refine x_rst hx hb hw (k := 0) rfl (i := 1) (xin_vp (by decide)) dL_bounds_97 (fun H locs hw => ?_)
      have hw : xw (xPlus E [(q, xInts E.cA 2 (upd (upd (fun _ => 0) 0 r7) 1 v15))]) A s.heap s σ13 H locs := hw
      exact x_Brow hx hb hr hlk hw hf (show (((((0 + 2) + 2) + 2) + 2) + 1) ≤ 9 by omega) (show (((((0 + 12) + 12) + 12) + 12) + 2) ≤ 50 by omega) dL_bounds_98
    · replace hf := xif_neg c78 hf
      refine lv_null hx hb dL_bounds_81 ?_
      refine lv_goto (tgt := 98) hx hb dL_bounds_82 (by decide) ?_
      exact x_Bnull hx hb hr hlk hw hf (show ((((0 + 2) + 2) + 2) + 2) ≤ 9 by omega) (show ((((0 + 12) + 12) + 12) + 12) ≤ 50 by omega) dL_bounds_98
