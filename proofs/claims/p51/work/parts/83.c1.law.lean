def fL_isBest_c150 (k106 : (Int32 → Int32 → Int32 → Int32 → Int32 → Int32 → xSt → Option (Int32 × xSt))) (a1 : Int32) (a2 : Int32) (a3 : Int32) (a4 : Int32) (a5 : Int32) (a6 : Int32) (σ : xSt) : Option (Int32 × xSt) := (xc2 (fX12_next 3 σ) fun r21 σ22 => (xl (a6 + (1 + r21)) fun v23 => k106 a1 a2 a3 a4 a5 v23 σ22))
def fL_isBest_c106 : Nat → Int32 → Int32 → Int32 → Int32 → Int32 → Int32 → xSt → Option (Int32 × xSt)
  | 0 => fun _ _ _ _ _ _ _ => none
  | n + 1 => fun a1 a2 a3 a4 a5 a6 σ => (if 100 ≤ a6 then some (1, σ) else (xco (fX11_loss a1 a6 a2 a3 σ) σ fun r19 σ20 => (if r19 < a5 then some (0, σ20) else (if a4 ≤ a6 then fL_isBest_c150 (fL_isBest_c106 n) a1 a2 a3 a4 a5 a6 σ20 else (if r19 = a5 then some (0, σ20) else fL_isBest_c150 (fL_isBest_c106 n) a1 a2 a3 a4 a5 a6 σ20)))))
theorem fL_isBest_c106_s (n : Nat) (a1 : Int32) (a2 : Int32) (a3 : Int32) (a4 : Int32) (a5 : Int32) (a6 : Int32) (σ : xSt) : fL_isBest_c106 (n + 1) a1 a2 a3 a4 a5 a6 σ = ((if 100 ≤ a6 then some (1, σ) else (xco (fX11_loss a1 a6 a2 a3 σ) σ fun r19 σ20 => (if r19 < a5 then some (0, σ20) else (if a4 ≤ a6 then fL_isBest_c150 (fL_isBest_c106 n) a1 a2 a3 a4 a5 a6 σ20 else (if r19 = a5 then some (0, σ20) else fL_isBest_c150 (fL_isBest_c106 n) a1 a2 a3 a4 a5 a6 σ20))))) : Option (Int32 × xSt)) := rfl
def fL_isBest_c24 : Nat → Int32 → Int32 → xSt → Option (Int32 × xSt)
  | 0 => fun _ _ _ => none
  | n + 1 => fun a1 a2 σ => (if a2 ≤ 0 then (xc2 (fX12_next 10 σ) fun r6 σ7 => (xc2 (fX12_next 20 σ7) fun r8 σ9 => (xco (fX11_bestNumber a1 r6 r8 σ9) σ9 fun r10 σ11 => (xco (fX11_loss a1 r10 r6 r8 σ11) σ11 fun r12 σ13 => fL_isBest_c106 xF101 a1 r6 r8 r10 r12 0 σ13)))) else (xc2 (fX12_next 100 σ) fun r14 σ15 => (xco (fX11_note a1 r14 σ15) σ15 fun r16 σ17 => (if 1 ≤ r16 then (xl (a2 + (-1)) fun v18 => fL_isBest_c24 n a1 v18 σ17) else some (0, σ17)))))
theorem fL_isBest_c24_s (n : Nat) (a1 : Int32) (a2 : Int32) (σ : xSt) : fL_isBest_c24 (n + 1) a1 a2 σ = ((if a2 ≤ 0 then (xc2 (fX12_next 10 σ) fun r6 σ7 => (xc2 (fX12_next 20 σ7) fun r8 σ9 => (xco (fX11_bestNumber a1 r6 r8 σ9) σ9 fun r10 σ11 => (xco (fX11_loss a1 r10 r6 r8 σ11) σ11 fun r12 σ13 => fL_isBest_c106 xF101 a1 r6 r8 r10 r12 0 σ13)))) else (xc2 (fX12_next 100 σ) fun r14 σ15 => (xco (fX11_note a1 r14 σ15) σ15 fun r16 σ17 => (if 1 ≤ r16 then (xl (a2 + (-1)) fun v18 => fL_isBest_c24 n a1 v18 σ17) else some (0, σ17))))) : Option (Int32 × xSt)) := rfl
def fL_isBest (σ : xSt) : Option (Int32 × xSt) := (xc2 (fX12_next (σ 52 2) σ) fun r1 σ2 => (xc2 (fX12_next 6 σ2) fun r3 σ4 => (xl (1 + r3) fun v5 => fL_isBest_c24 xF8 r1 v5 σ4)))
abbrev rmL_isBest : Room := { frames := 9, cells := 231, slots := 1386, locals := 161 }
set_option maxRecDepth 100000 in
set_option maxHeartbeats 8000000 in
theorem mL_isBest {l : Launch} (hl0 : l.stackTraces = false) {E : xE} (hE : xLE E) (σ : xSt) (o1 : Int32) (o2 : xSt) (hf : fL_isBest σ = some (o1, o2)) : xLi l yL_isBest wsL_isBest rmL_isBest E [.ref (E.a 52)] σ o1 o2 231 1386 := by
  unfold fL_isBest at hf
  refine xLi_of (cc := cL_isBest) (maxL := 8) (ret := (some .boolean)) (by decide) rfl (Nat.le_of_ble_eq_true rfl) ?_
  intro p e s m args below meth c A ls ⟨hx, hb, hr, hml, hown, hts, hlk⟩ hA hGL hw hl
  have hG := hGL.1
  have eF8 : xF8 = 8 := rfl
  have eF101 : xF101 = 101 := rfl
  have hown : s.vm.findClass RL = some m.cls := hown
  have hl : lv_has ls 8 [(0, .ref (E.a 52))] := hl
  have hk34 := hts (.fieldLink RL 34 "OvenRoundLaw" "d" "LOvenRoundLaw$Draws;") (by decide +kernel)
  have hiL : ∀ w ∈ wsL0, w ∈ wsL_isBest := by decide +kernel
  have hk62 := hts (.fieldLink RL 62 "OvenRoundLaw" "recipes" "I") (by decide +kernel)
  have hk10 := hts (.fieldLink RL 10 "OvenRoundLaw" "o" "LOvenRound;") (by decide +kernel)
  have h106 : ∀ (n : Nat) (a1 : Int32) (a2 : Int32) (a3 : Int32) (a4 : Int32) (a5 : Int32) (a6 : Int32) (σ : xSt) (H : Heap) (locs : List Loc) (ls : Array Slot) (nc ns : Nat), xw E A s.heap s σ H locs → lv_has ls 8 [(0, .ref (E.a 52)), (1, .int a1), (2, .int a2), (3, .int a3), (4, .int a4), (5, .int a5), (6, .int a6)] → fL_isBest_c106 n a1 a2 a3 a4 a5 a6 σ = some (o1, o2) → nc + (0 + 2 * n) ≤ 231 → ns + (0 + 12 * n) ≤ 1386 → W p l e rmL_isBest s m args below meth c H locs nc ns (MQ below (xQi E A o1 o2) args s 231 1386 A) (F0 m 106 ls []) := by
    intro n106
    induction n106 with
    | zero => intro a1 a2 a3 a4 a5 a6 σ H locs ls nc ns hw hl hf hnc hns; exact nomatch hf
    | succ n106 ih106 =>
      have h150 : ∀ (a1 : Int32) (a2 : Int32) (a3 : Int32) (a4 : Int32) (a5 : Int32) (a6 : Int32) (σ : xSt) (H : Heap) (locs : List Loc) (ls : Array Slot) (nc ns : Nat), xw E A s.heap s σ H locs → lv_has ls 8 [(0, .ref (E.a 52)), (1, .int a1), (2, .int a2), (3, .int a3), (4, .int a4), (5, .int a5), (6, .int a6)] → fL_isBest_c150 (fL_isBest_c106 n106) a1 a2 a3 a4 a5 a6 σ = some (o1, o2) → nc + (0 + 2 * n106) ≤ 231 → ns + (0 + 12 * n106) ≤ 1386 → W p l e rmL_isBest s m args below meth c H locs nc ns (MQ below (xQi E A o1 o2) args s 231 1386 A) (F0 m 150 ls []) := by
        intro a1 a2 a3 a4 a5 a6 σ H locs ls nc ns hw hl hf hnc hns
        unfold fL_isBest_c150 at hf
        refine lv_iload hx hb dL_isBest_150 (lv_at hl 6 rfl) ?_
        refine lv_iconst (v := 1) hx hb dL_isBest_152 (by decide) ?_
        refine lv_aload_n hx hb dL_isBest_153 rfl (lv_at hl 0 rfl) ?_
        refine x_getr hx hb hw (cL52 hE) (own := RL) (ref := RL) (C := RL) (T := TL) (N := 10) hts hiL hown rfl 1 (by decide) hk34 (fun _ h9 => h9) rfl dL_isBest_154 ?_
        refine lv_iconst (v := 3) hx hb dL_isBest_157 (by decide) ?_
        obtain ⟨r21, σ22, hcl, hf⟩ := xc2_f hf
        refine x_callLi (va_runV (As := [.int 3]) (rest := [.int 1, .int a6]) ⟨hx, hb, hml, hown, hts⟩ (mX12_next hl0 hE 3 σ r21 σ22 hcl H.size) (cwV 1 hts gL_isBest_X12_next rfl rfl rfl (by decide +kernel) ⟨Nat.le_of_ble_eq_true rfl, Nat.le_of_ble_eq_true rfl⟩) (x_preLV _ hw hA hGL (cL53 hE) rfl) rfl rfl hl.1 rfl (lv_room (Nat.le_of_ble_eq_true rfl)) dL_isBest_158 ⟨show nc + 0 ≤ 231 by omega, show ns + 0 ≤ 1386 by omega⟩) hw hA (fun H locs hw => ?_)
        clear hcl
        refine lv_iadd hx hb dL_isBest_161 ?_
        refine lv_iadd hx hb dL_isBest_162 ?_
        refine lv_topi (fun v23 ex => ?_)
        replace hf := xl_f hf v23 ex
        clear ex
        refine lv_istore (lv' := [(6, .int v23), (0, .ref (E.a 52)), (1, .int a1), (2, .int a2), (3, .int a3), (4, .int a4), (5, .int a5)]) hx hb dL_isBest_163 hl (by decide) rfl (fun ls hl => ?_)
        refine lv_goto (tgt := 106) hx hb dL_isBest_165 (by decide) ?_
        exact ih106 a1 a2 a3 a4 a5 v23 σ22 _ _ _ (nc + 0) (ns + 0) hw (lv_sub hl [1, 2, 3, 4, 5, 6, 0] rfl) hf (by omega) (by omega)
      intro a1 a2 a3 a4 a5 a6 σ H locs ls nc ns hw hl hf hnc hns
      rw [fL_isBest_c106_s] at hf
      refine lv_iload hx hb dL_isBest_106 (lv_at hl 6 rfl) ?_
      refine lv_bipush (v := 100) hx hb dL_isBest_108 (by decide) ?_
      refine lv_icmp_ge (tgt := 168) hx hb dL_isBest_110 (by decide) (fun c110 => ?_) (fun c110 => ?_)
      · replace hf := xif_pos c110 hf
        refine lv_iconst (v := 1) hx hb dL_isBest_168 (by decide) ?_
        exact x_Lzretc hx hb hr hlk hw (by decide) hf (show nc ≤ 231 by omega) (show ns ≤ 1386 by omega) dL_isBest_169
      · replace hf := xif_neg c110 hf
        refine lv_aload_n hx hb dL_isBest_113 rfl (lv_at hl 0 rfl) ?_
        refine x_getr hx hb hw (cL52 hE) (own := RL) (ref := RL) (C := RL) (T := TL) (N := 10) hts hiL hown rfl 0 (by decide) hk10 (fun _ h9 => h9) rfl dL_isBest_114 ?_
        refine lv_iload_n hx hb dL_isBest_117 rfl (lv_at hl 1 rfl) ?_
        refine lv_iload hx hb dL_isBest_118 (lv_at hl 6 rfl) ?_
        refine lv_iload_n hx hb dL_isBest_120 rfl (lv_at hl 2 rfl) ?_
        refine lv_iload_n hx hb dL_isBest_121 rfl (lv_at hl 3 rfl) ?_
        obtain ⟨r19, τ9, hcl, hf⟩ := xco_g hf
        refine x_tcallo (vx_runV (As := [.int a1, .int a6, .int a2, .int a3]) (rest := []) ⟨hx, hb, hml, hown, hts⟩ (mX11_loss hl0 (E := xCut E σ) rfl a1 a6 a2 a3 σ (.inl r19) τ9 hcl H.size) (cwV 4 hts gL_isBest_X11_loss rfl rfl rfl (by decide +kernel) ⟨Nat.le_of_ble_eq_true rfl, Nat.le_of_ble_eq_true rfl⟩) (x_preV _ (xw_cut hE hw) hA hG (cX0 (E := xCut E σ) rfl) rfl) rfl rfl hl.1 rfl (lv_room (Nat.le_of_ble_eq_true rfl)) dL_isBest_122 ⟨show nc + 2 ≤ 231 by omega, show ns + 12 ≤ 1386 by omega⟩) (xw_cut hE hw) hA (fun H locs hw => ?_)
        obtain ⟨σ20, eρ, hw⟩ := xw_unc2 hE hw
        replace hf := hf σ20 eρ
        clear eρ hcl
        refine lv_istore (lv' := [(7, .int r19), (0, .ref (E.a 52)), (1, .int a1), (2, .int a2), (3, .int a3), (4, .int a4), (5, .int a5), (6, .int a6)]) hx hb dL_isBest_125 hl (by decide) rfl (fun ls hl => ?_)
        refine lv_iload hx hb dL_isBest_127 (lv_at hl 0 rfl) ?_
        refine lv_iload hx hb dL_isBest_129 (lv_at hl 6 rfl) ?_
        refine lv_icmp_lt (tgt := 148) hx hb dL_isBest_131 (by decide) (fun c131 => ?_) (fun c131 => ?_)
        · replace hf := xif_pos c131 hf
          refine lv_iconst (v := 0) hx hb dL_isBest_148 (by decide) ?_
          exact x_Lzretc hx hb hr hlk hw (by decide) hf (show (nc + 2) ≤ 231 by omega) (show (ns + 12) ≤ 1386 by omega) dL_isBest_149
        · replace hf := xif_neg c131 hf
          refine lv_iload hx hb dL_isBest_134 (lv_at hl 7 rfl) ?_
          refine lv_iload hx hb dL_isBest_136 (lv_at hl 5 rfl) ?_
          refine lv_icmp_ge (tgt := 150) hx hb dL_isBest_138 (by decide) (fun c138 => ?_) (fun c138 => ?_)
          · replace hf := xif_pos c138 hf
            exact h150 a1 a2 a3 a4 a5 a6 σ20 _ _ _ (nc + 2) (ns + 12) hw (lv_sub hl [1, 2, 3, 4, 5, 6, 7] rfl) hf (by omega) (by omega)
          · replace hf := xif_neg c138 hf
            refine lv_iload hx hb dL_isBest_141 (lv_at hl 0 rfl) ?_
            refine lv_iload hx hb dL_isBest_143 (lv_at hl 6 rfl) ?_
            refine lv_icmp_ne (tgt := 150) hx hb dL_isBest_145 (by decide) (fun c145 => ?_) (fun c145 => ?_)
            · replace hf := xif_neg c145 hf
              exact h150 a1 a2 a3 a4 a5 a6 σ20 _ _ _ (nc + 2) (ns + 12) hw (lv_sub hl [1, 2, 3, 4, 5, 6, 7] rfl) hf (by omega) (by omega)
            · replace hf := xif_pos c145 hf
              refine lv_iconst (v := 0) hx hb dL_isBest_148 (by decide) ?_
              exact x_Lzretc hx hb hr hlk hw (by decide) hf (show (nc + 2) ≤ 231 by omega) (show (ns + 12) ≤ 1386 by omega) dL_isBest_149
  have h24 : ∀ (n : Nat) (a1 : Int32) (a2 : Int32) (σ : xSt) (H : Heap) (locs : List Loc) (ls : Array Slot) (nc ns : Nat), xw E A s.heap s σ H locs → lv_has ls 8 [(0, .ref (E.a 52)), (1, .int a1), (2, .int a2)] → fL_isBest_c24 n a1 a2 σ = some (o1, o2) → nc + (207 + 3 * n) ≤ 231 → ns + (1242 + 18 * n) ≤ 1386 → W p l e rmL_isBest s m args below meth c H locs nc ns (MQ below (xQi E A o1 o2) args s 231 1386 A) (F0 m 24 ls []) := by
    intro n24
    induction n24 with
    | zero => intro a1 a2 σ H locs ls nc ns hw hl hf hnc hns; exact nomatch hf
    | succ n24 ih24 =>
      intro a1 a2 σ H locs ls nc ns hw hl hf hnc hns
      rw [fL_isBest_c24_s] at hf
      refine lv_iload_n hx hb dL_isBest_24 rfl (lv_at hl 2 rfl) ?_
      refine lv_if_le (tgt := 57) hx hb dL_isBest_25 (by decide) (fun c25 => ?_) (fun c25 => ?_)
      · replace hf := xif_pos c25 hf
        refine lv_aload_n hx hb dL_isBest_57 rfl (lv_at hl 0 rfl) ?_
        refine x_getr hx hb hw (cL52 hE) (own := RL) (ref := RL) (C := RL) (T := TL) (N := 10) hts hiL hown rfl 1 (by decide) hk34 (fun _ h9 => h9) rfl dL_isBest_58 ?_
        refine lv_bipush (v := 10) hx hb dL_isBest_61 (by decide) ?_
        obtain ⟨r6, σ7, hcl, hf⟩ := xc2_f hf
        refine x_callLi (va_runV (As := [.int 10]) (rest := []) ⟨hx, hb, hml, hown, hts⟩ (mX12_next hl0 hE 10 σ r6 σ7 hcl H.size) (cwV 1 hts gL_isBest_X12_next rfl rfl rfl (by decide +kernel) ⟨Nat.le_of_ble_eq_true rfl, Nat.le_of_ble_eq_true rfl⟩) (x_preLV _ hw hA hGL (cL53 hE) rfl) rfl rfl hl.1 rfl (lv_room (Nat.le_of_ble_eq_true rfl)) dL_isBest_63 ⟨show nc + 0 ≤ 231 by omega, show ns + 0 ≤ 1386 by omega⟩) hw hA (fun H locs hw => ?_)
        clear hcl
        refine lv_istore_n (lv' := [(2, .int r6), (0, .ref (E.a 52)), (1, .int a1)]) hx hb dL_isBest_66 rfl hl (by decide) rfl (fun ls hl => ?_)
        refine lv_aload_n hx hb dL_isBest_67 rfl (lv_at hl 1 rfl) ?_
        refine x_getr hx hb hw (cL52 hE) (own := RL) (ref := RL) (C := RL) (T := TL) (N := 10) hts hiL hown rfl 1 (by decide) hk34 (fun _ h9 => h9) rfl dL_isBest_68 ?_
        refine lv_bipush (v := 20) hx hb dL_isBest_71 (by decide) ?_
        obtain ⟨r8, σ9, hcl, hf⟩ := xc2_f hf
        refine x_callLi (va_runV (As := [.int 20]) (rest := []) ⟨hx, hb, hml, hown, hts⟩ (mX12_next hl0 hE 20 σ7 r8 σ9 hcl H.size) (cwV 1 hts gL_isBest_X12_next rfl rfl rfl (by decide +kernel) ⟨Nat.le_of_ble_eq_true rfl, Nat.le_of_ble_eq_true rfl⟩) (x_preLV _ hw hA hGL (cL53 hE) rfl) rfl rfl hl.1 rfl (lv_room (Nat.le_of_ble_eq_true rfl)) dL_isBest_73 ⟨show (nc + 0) + 0 ≤ 231 by omega, show (ns + 0) + 0 ≤ 1386 by omega⟩) hw hA (fun H locs hw => ?_)
        clear hcl
        refine lv_istore_n (lv' := [(3, .int r8), (2, .int r6), (0, .ref (E.a 52)), (1, .int a1)]) hx hb dL_isBest_76 rfl hl (by decide) rfl (fun ls hl => ?_)
        refine lv_aload_n hx hb dL_isBest_77 rfl (lv_at hl 2 rfl) ?_
        refine x_getr hx hb hw (cL52 hE) (own := RL) (ref := RL) (C := RL) (T := TL) (N := 10) hts hiL hown rfl 0 (by decide) hk10 (fun _ h9 => h9) rfl dL_isBest_78 ?_
        refine lv_iload_n hx hb dL_isBest_81 rfl (lv_at hl 3 rfl) ?_
        refine lv_iload_n hx hb dL_isBest_82 rfl (lv_at hl 1 rfl) ?_
        refine lv_iload_n hx hb dL_isBest_83 rfl (lv_at hl 0 rfl) ?_
        obtain ⟨r10, τ9, hcl, hf⟩ := xco_g hf
        refine x_tcallo (vx_runV (As := [.int a1, .int r6, .int r8]) (rest := []) ⟨hx, hb, hml, hown, hts⟩ (mX11_bestNumber hl0 (E := xCut E σ9) rfl a1 r6 r8 σ9 (.inl r10) τ9 hcl H.size) (cwV 3 hts gL_isBest_X11_bestNumber rfl rfl rfl (by decide +kernel) ⟨Nat.le_of_ble_eq_true rfl, Nat.le_of_ble_eq_true rfl⟩) (x_preV _ (xw_cut hE hw) hA hG (cX0 (E := xCut E σ9) rfl) rfl) rfl rfl hl.1 rfl (lv_room (Nat.le_of_ble_eq_true rfl)) dL_isBest_84 ⟨show ((nc + 0) + 0) + 3 ≤ 231 by omega, show ((ns + 0) + 0) + 18 ≤ 1386 by omega⟩) (xw_cut hE hw) hA (fun H locs hw => ?_)
        obtain ⟨σ11, eρ, hw⟩ := xw_unc2 hE hw
        replace hf := hf σ11 eρ
        clear eρ hcl
        refine lv_istore (lv' := [(4, .int r10), (3, .int r8), (2, .int r6), (0, .ref (E.a 52)), (1, .int a1)]) hx hb dL_isBest_87 hl (by decide) rfl (fun ls hl => ?_)
        refine lv_aload_n hx hb dL_isBest_89 rfl (lv_at hl 3 rfl) ?_
        refine x_getr hx hb hw (cL52 hE) (own := RL) (ref := RL) (C := RL) (T := TL) (N := 10) hts hiL hown rfl 0 (by decide) hk10 (fun _ h9 => h9) rfl dL_isBest_90 ?_
        refine lv_iload_n hx hb dL_isBest_93 rfl (lv_at hl 4 rfl) ?_
        refine lv_iload hx hb dL_isBest_94 (lv_at hl 0 rfl) ?_
        refine lv_iload_n hx hb dL_isBest_96 rfl (lv_at hl 2 rfl) ?_
        refine lv_iload_n hx hb dL_isBest_97 rfl (lv_at hl 1 rfl) ?_
        obtain ⟨r12, τ9, hcl, hf⟩ := xco_g hf
        refine x_tcallo (vx_runV (As := [.int a1, .int r10, .int r6, .int r8]) (rest := []) ⟨hx, hb, hml, hown, hts⟩ (mX11_loss hl0 (E := xCut E σ11) rfl a1 r10 r6 r8 σ11 (.inl r12) τ9 hcl H.size) (cwV 4 hts gL_isBest_X11_loss rfl rfl rfl (by decide +kernel) ⟨Nat.le_of_ble_eq_true rfl, Nat.le_of_ble_eq_true rfl⟩) (x_preV _ (xw_cut hE hw) hA hG (cX0 (E := xCut E σ11) rfl) rfl) rfl rfl hl.1 rfl (lv_room (Nat.le_of_ble_eq_true rfl)) dL_isBest_98 ⟨show (((nc + 0) + 0) + 3) + 2 ≤ 231 by omega, show (((ns + 0) + 0) + 18) + 12 ≤ 1386 by omega⟩) (xw_cut hE hw) hA (fun H locs hw => ?_)
        obtain ⟨σ13, eρ, hw⟩ := xw_unc2 hE hw
        replace hf := hf σ13 eρ
        clear eρ hcl
        refine lv_istore (lv' := [(5, .int r12), (4, .int r10), (3, .int r8), (2, .int r6), (0, .ref (E.a 52)), (1, .int a1)]) hx hb dL_isBest_101 hl (by decide) rfl (fun ls hl => ?_)
        refine lv_iconst (v := 0) hx hb dL_isBest_103 (by decide) ?_
        refine lv_istore (lv' := [(6, .int 0), (5, .int r12), (4, .int r10), (3, .int r8), (2, .int r6), (0, .ref (E.a 52)), (1, .int a1)]) hx hb dL_isBest_104 hl (by decide) rfl (fun ls hl => ?_)
        exact h106 xF101 a1 r6 r8 r10 r12 0 σ13 _ _ _ ((((nc + 0) + 0) + 3) + 2) ((((ns + 0) + 0) + 18) + 12) hw (lv_sub hl [5, 6, 4, 3, 2, 1, 0] rfl) hf (by omega) (by omega)
      · replace hf := xif_neg c25 hf
        refine lv_aload_n hx hb dL_isBest_28 rfl (lv_at hl 0 rfl) ?_
        refine x_getr hx hb hw (cL52 hE) (own := RL) (ref := RL) (C := RL) (T := TL) (N := 10) hts hiL hown rfl 0 (by decide) hk10 (fun _ h9 => h9) rfl dL_isBest_29 ?_
        refine lv_iload_n hx hb dL_isBest_32 rfl (lv_at hl 1 rfl) ?_
        refine lv_aload_n hx hb dL_isBest_33 rfl (lv_at hl 0 rfl) ?_
        refine x_getr hx hb hw (cL52 hE) (own := RL) (ref := RL) (C := RL) (T := TL) (N := 10) hts hiL hown rfl 1 (by decide) hk34 (fun _ h9 => h9) rfl dL_isBest_34 ?_
        refine lv_bipush (v := 100) hx hb dL_isBest_37 (by decide) ?_
        obtain ⟨r14, σ15, hcl, hf⟩ := xc2_f hf
        refine x_callLi (va_runV (As := [.int 100]) (rest := [.int a1, .ref (E.a 0)]) ⟨hx, hb, hml, hown, hts⟩ (mX12_next hl0 hE 100 σ r14 σ15 hcl H.size) (cwV 1 hts gL_isBest_X12_next rfl rfl rfl (by decide +kernel) ⟨Nat.le_of_ble_eq_true rfl, Nat.le_of_ble_eq_true rfl⟩) (x_preLV _ hw hA hGL (cL53 hE) rfl) rfl rfl hl.1 rfl (lv_room (Nat.le_of_ble_eq_true rfl)) dL_isBest_39 ⟨show nc + 0 ≤ 231 by omega, show ns + 0 ≤ 1386 by omega⟩) hw hA (fun H locs hw => ?_)
        clear hcl
        obtain ⟨r16, τ9, hcl, hf⟩ := xco_g hf
        refine x_tcallo (vx_runV (As := [.int a1, .int r14]) (rest := []) ⟨hx, hb, hml, hown, hts⟩ (mX11_note hl0 (E := xCut E σ15) rfl a1 r14 σ15 (.inl r16) τ9 hcl H.size) (cwV 2 hts gL_isBest_X11_note rfl rfl rfl (by decide +kernel) ⟨Nat.le_of_ble_eq_true rfl, Nat.le_of_ble_eq_true rfl⟩) (x_preV _ (xw_cut hE hw) hA hG (cX0 (E := xCut E σ15) rfl) rfl) rfl rfl hl.1 rfl (lv_room (Nat.le_of_ble_eq_true rfl)) dL_isBest_42 ⟨show (nc + 0) + 3 ≤ 231 by omega, show (ns + 0) + 18 ≤ 1386 by omega⟩) (xw_cut hE hw) hA (fun H locs hw => ?_)
        obtain ⟨σ17, eρ, hw⟩ := xw_unc2 hE hw
        replace hf := hf σ17 eρ
        clear eρ hcl
        refine lv_iconst (v := 1) hx hb dL_isBest_45 (by decide) ?_
        refine lv_icmp_ge (tgt := 51) hx hb dL_isBest_46 (by decide) (fun c46 => ?_) (fun c46 => ?_)
        · replace hf := xif_pos c46 hf
          obtain ⟨v18, ex⟩ : ∃ y : Int32, y = (a2 + (-1)) := ⟨_, rfl⟩
          replace hf := xl_f hf v18 ex
          refine lv_iinc (v := v18) (lv' := [(2, .int v18), (0, .ref (E.a 52)), (1, .int a1)]) hx hb dL_isBest_51 hl (k := 2) rfl (by rw [ex]; rfl) (by decide) rfl (fun ls hl => ?_)
          clear ex
          refine lv_goto (tgt := 24) hx hb dL_isBest_54 (by decide) ?_
          exact ih24 a1 v18 σ17 _ _ _ ((nc + 0) + 3) ((ns + 0) + 18) hw (lv_sub hl [1, 2, 0] rfl) hf (by omega) (by omega)
        · replace hf := xif_neg c46 hf
          refine lv_iconst (v := 0) hx hb dL_isBest_49 (by decide) ?_
          exact x_Lzretc hx hb hr hlk hw (by decide) hf (show ((nc + 0) + 3) ≤ 231 by omega) (show ((ns + 0) + 18) ≤ 1386 by omega) dL_isBest_50
  refine lv_aload_n hx hb dL_isBest_0 rfl (lv_at hl 0 rfl) ?_
  refine x_getr hx hb hw (cL52 hE) (own := RL) (ref := RL) (C := RL) (T := TL) (N := 10) hts hiL hown rfl 1 (by decide) hk34 (fun _ h9 => h9) rfl dL_isBest_1 ?_
  refine lv_aload_n hx hb dL_isBest_4 rfl (lv_at hl 0 rfl) ?_
  refine x_geti hx hb hw (cL52 hE) (own := RL) (ref := RL) (C := RL) (T := TL) (N := 10) hts hiL hown rfl 2 (by decide) hk62 (fun _ h9 => h9) rfl dL_isBest_5 ?_
  obtain ⟨r1, σ2, hcl, hf⟩ := xc2_f hf
  refine x_callLi (va_runV (As := [.int (σ 52 2)]) (rest := []) ⟨hx, hb, hml, hown, hts⟩ (mX12_next hl0 hE (σ 52 2) σ r1 σ2 hcl s.heap.size) (cwV 1 hts gL_isBest_X12_next rfl rfl rfl (by decide +kernel) ⟨Nat.le_of_ble_eq_true rfl, Nat.le_of_ble_eq_true rfl⟩) (x_preLV _ hw hA hGL (cL53 hE) rfl) rfl rfl hl.1 rfl (lv_room (Nat.le_of_ble_eq_true rfl)) dL_isBest_8 ⟨show 0 + 0 ≤ 231 by omega, show 0 + 0 ≤ 1386 by omega⟩) hw hA (fun H locs hw => ?_)
  clear hcl
  refine lv_istore_n (lv' := [(1, .int r1), (0, .ref (E.a 52))]) hx hb dL_isBest_11 rfl hl (by decide) rfl (fun ls hl => ?_)
  refine lv_iconst (v := 1) hx hb dL_isBest_12 (by decide) ?_
  refine lv_aload_n hx hb dL_isBest_13 rfl (lv_at hl 1 rfl) ?_
  refine x_getr hx hb hw (cL52 hE) (own := RL) (ref := RL) (C := RL) (T := TL) (N := 10) hts hiL hown rfl 1 (by decide) hk34 (fun _ h9 => h9) rfl dL_isBest_14 ?_
  refine lv_bipush (v := 6) hx hb dL_isBest_17 (by decide) ?_
  obtain ⟨r3, σ4, hcl, hf⟩ := xc2_f hf
  refine x_callLi (va_runV (As := [.int 6]) (rest := [.int 1]) ⟨hx, hb, hml, hown, hts⟩ (mX12_next hl0 hE 6 σ2 r3 σ4 hcl H.size) (cwV 1 hts gL_isBest_X12_next rfl rfl rfl (by decide +kernel) ⟨Nat.le_of_ble_eq_true rfl, Nat.le_of_ble_eq_true rfl⟩) (x_preLV _ hw hA hGL (cL53 hE) rfl) rfl rfl hl.1 rfl (lv_room (Nat.le_of_ble_eq_true rfl)) dL_isBest_19 ⟨show (0 + 0) + 0 ≤ 231 by omega, show (0 + 0) + 0 ≤ 1386 by omega⟩) hw hA (fun H locs hw => ?_)
  clear hcl
  refine lv_iadd hx hb dL_isBest_22 ?_
  refine lv_topi (fun v5 ex => ?_)
  replace hf := xl_f hf v5 ex
  clear ex
  refine lv_istore_n (lv' := [(2, .int v5), (1, .int r1), (0, .ref (E.a 52))]) hx hb dL_isBest_23 rfl hl (by decide) rfl (fun ls hl => ?_)
  exact h24 xF8 r1 v5 σ4 _ _ _ ((0 + 0) + 0) ((0 + 0) + 0) hw (lv_sub hl [2, 1, 0] rfl) hf (by omega) (by omega)
