def fL_isBest_c150 (k106 : (Int32 → Int32 → Int32 → Int32 → Int32 → Int32 → xSt → Option (Int32 × xSt))) (a1 : Int32) (a2 : Int32) (a3 : Int32) (a4 : Int32) (a5 : Int32) (a6 : Int32) (σ : xSt) : Option (Int32 × xSt) := (xc2 (fX12_next 3 σ) fun r21 σ22 => (xl (a6 + (1 + r21)) fun v23 => k106 a1 a2 a3 a4 a5 v23 σ22))
def fL_isBest_c106 : Nat → Int32 → Int32 → Int32 → Int32 → Int32 → Int32 → xSt → Option (Int32 × xSt)
  | 0 => fun _ _ _ _ _ _ _ => none
  | n + 1 => fun a1 a2 a3 a4 a5 a6 σ => (if 100 ≤ a6 then some (1, σ) else (xco (fX11_loss a1 a6 a2 a3 σ) σ fun r19 σ20 => (if r19 < a5 then some (0, σ20) else (if a4 ≤ a6 then fL_isBest_c150 (fL_isBest_c106 n) a1 a2 a3 a4 a5 a6 σ20 else (if r19 = a5 then some (0, σ20) else fL_isBest_c150 (fL_isBest_c106 n) a1 a2 a3 a4 a5 a6 σ20)))))
theorem fL_isBest_c106_s (n : Nat) (a1 : Int32) (a2 : Int32) (a3 : Int32) (a4 : Int32) (a5 : Int32) (a6 : Int32) (σ : xSt) : fL_isBest_c106 (n + 1) a1 a2 a3 a4 a5 a6 σ = ((if 100 ≤ a6 then some (1, σ) else (xco (fX11_loss a1 a6 a2 a3 σ) σ fun r19 σ20 => (if r19 < a5 then some (0, σ20) else (if a4 ≤ a6 then fL_isBest_c150 (fL_isBest_c106 n) a1 a2 a3 a4 a5 a6 σ20 else (if r19 = a5 then some (0, σ20) else fL_isBest_c150 (fL_isBest_c106 n) a1 a2 a3 a4 a5 a6 σ20))))) : Option (Int32 × xSt)) := rfl
def fL_isBest_c24 : Nat → Int32 → Int32 → xSt → Option (Int32 × xSt)
  | 0 => fun _ _ _ => none
  | n + 1 => fun a1 a2 σ => (if a2 ≤ 0 then (xc2 (fX12_next 10 σ) fun r6 σ7 => (xc2 (fX12_next 20 σ7) fun r8 σ9 => (xco (fX11_bestNumber a1 r6 r8 σ9) σ9 fun r10 σ11 => (xco (fX11_loss a1 r10 r6 r8 σ11) σ11 fun r12 σ13 => fL_isBest_c106 101 a1 r6 r8 r10 r12 0 σ13)))) else (xc2 (fX12_next 100 σ) fun r14 σ15 => (xco (fX11_note a1 r14 σ15) σ15 fun r16 σ17 => (if 1 ≤ r16 then (xl (a2 + (-1)) fun v18 => fL_isBest_c24 n a1 v18 σ17) else some (0, σ17)))))
theorem fL_isBest_c24_s (n : Nat) (a1 : Int32) (a2 : Int32) (σ : xSt) : fL_isBest_c24 (n + 1) a1 a2 σ = ((if a2 ≤ 0 then (xc2 (fX12_next 10 σ) fun r6 σ7 => (xc2 (fX12_next 20 σ7) fun r8 σ9 => (xco (fX11_bestNumber a1 r6 r8 σ9) σ9 fun r10 σ11 => (xco (fX11_loss a1 r10 r6 r8 σ11) σ11 fun r12 σ13 => fL_isBest_c106 101 a1 r6 r8 r10 r12 0 σ13)))) else (xc2 (fX12_next 100 σ) fun r14 σ15 => (xco (fX11_note a1 r14 σ15) σ15 fun r16 σ17 => (if 1 ≤ r16 then (xl (a2 + (-1)) fun v18 => fL_isBest_c24 n a1 v18 σ17) else some (0, σ17))))) : Option (Int32 × xSt)) := rfl
def fL_isBest (σ : xSt) : Option (Int32 × xSt) := (xc2 (fX12_next (σ 52 2) σ) fun r1 σ2 => (xc2 (fX12_next 6 σ2) fun r3 σ4 => (xl (1 + r3) fun v5 => fL_isBest_c24 8 r1 v5 σ4)))
abbrev rmL_isBest : Room := { frames := 9, cells := 231, slots := 1386, locals := 161 }
set_option maxRecDepth 100000 in
set_option maxHeartbeats 8000000 in
theorem mL_isBest {l : Launch} (hl0 : l.stackTraces = false) {E : xE} (hE : xLE E) (σ : xSt) (o1 : Int32) (o2 : xSt) (hf : fL_isBest σ = some (o1, o2)) : xLi l yL_isBest wsL_isBest rmL_isBest E [.ref (E.a 52)] σ o1 o2 231 1386 := by
  unfold fL_isBest at hf
  refine xLi_of (cc := cL_isBest) (maxL := 8) (ret := (some .boolean)) (by decide) rfl (Nat.le_of_ble_eq_true rfl) ?_
  intro p e s m args below meth c A ls ⟨hx, hb, hr, hml, hown, hts, hlk⟩ hA hGL hw hl
  have hG := hGL.1
  have hown : s.vm.findClass RL = some m.cls := hown
  have hl : lv_has ls 8 [(0, .ref (E.a 52))] := hl
  have hk34 := hts (.fieldLink RL 34 "OvenRoundLaw" "d" "LOvenRoundLaw$Draws;") (by decide +kernel)
  have hiL : ∀ w ∈ wsL0, w ∈ wsL_isBest := by decide +kernel
  have hk62 := hts (.fieldLink RL 62 "OvenRoundLaw" "recipes" "I") (by decide +kernel)
  have hk10 := hts (.fieldLink RL 10 "OvenRoundLaw" "o" "LOvenRound;") (by decide +kernel)
  have h106 : ∀ (n : Nat) (a1 : Int32) (a2 : Int32) (a3 : Int32) (a4 : Int32) (a5 : Int32) (a6 : Int32) (σ : xSt) (H : Heap) (locs : List Loc) (ls : Array Slot) (nc ns : Nat), xw E A s.heap s σ H locs → lv_has ls 8 [(0, .ref (E.a 52)), (1, .int a1), (2, .int a2), (3, .int a3), (4, .int a4), (5, .int a5), (6, .int a6)] → fL_isBest_c106 n a1 a2 a3 a4 a5 a6 σ = some (o1, o2) → nc + (0 + 2 * n) ≤ 231 → ns + (0 + 12 * n) ≤ 1386 → W p l e rmL_isBest s m args below meth c H locs nc ns (MQ below (xQi E A o1 o2) args s 231 1386 A) (F0 m 106 ls []) := by
    intro n106
    induction n106 with
    | zero => intro a1 a2 a3 a4 a5 a6 σ H locs ls nc ns hw hl hf hnc hns; exact nomatch hf
    | succ n106 ih106 =>
      have h150 : ∀ (a1 : Int32) (a2 : Int32) (a3 : Int32) (a4 : Int32) (a5 : Int32) (a6 : Int32) (σ : xSt) (H : Heap) (locs : List Loc) (ls : Array Slot) (nc ns : Nat), xw E A s.heap s σ H locs → lv_has ls 8 [(0, .ref (E.a 52)), (1, .int a1), (2, .int a2), (3, .int a3), (4, .int a4), (5, .int a5), (6, .int a6)] → fL_isBest_c150 (fL_isBest_c106 n106) a1 a2 a3 a4 a5 a6 σ = some (o1, o2) → nc + (0 + 2 * n106) ≤ 231 → ns + (0 + 12 * n106) ≤ 1386 → W p l e rmL_isBest s m args below meth c H locs nc ns (MQ below (xQi E A o1 o2) args s 231 1386 A) (F0 m 150 ls []) := by
        intro a1 a2 a3 a4 a5 a6 σ H locs ls nc ns hw hl hf hnc hns
        unfold fL_isBest_c150 at hf
        refine lv_iload hx hb dL_isBest_150 (lv_at hl 6 rfl) ?_
        refine lv_iconst (v := 1) hx hb dL_isBest_152 (by decide) ?_
        refine lv_aload_n hx hb dL_isBest_153 rfl (lv_at hl 0 rfl) ?_
        refine x_getr hx hb hw (cL52 hE) (own := RL) (ref := RL) (C := RL) (T := TL) (N := 10) hts hiL hown rfl 1 (by decide) hk34 (fun _ h9 => h9) rfl dL_isBest_154 ?_
        refine lv_iconst (v := 3) hx hb dL_isBest_157 (by decide) ?_
        obtain ⟨r21, σ22, hcl, hf⟩ := xc2_f hf
        refine x_callLi (va_runV (As := [.int 3]) (rest := [.int 1, .int a6]) ⟨hx, hb, hml, hown, hts⟩ (mX12_next hl0 hE 3 σ r21 σ22 hcl H.size) (cwV 1 hts gL_isBest_X12_next rfl rfl rfl (by decide +kernel) ⟨Nat.le_of_ble_eq_true rfl, Nat.le_of_ble_eq_true rfl⟩) (x_preLV _ hw hA hGL (cL53 hE) rfl) rfl rfl hl.1 rfl (lv_room (Nat.le_of_ble_eq_true rfl)) dL_isBest_158 ⟨show nc + 0 ≤ 231 by omega, show ns + 0 ≤ 1386 by omega⟩) hw hA (fun H locs hw => ?_)
        clear hcl
        refine lv_iadd hx hb dL_isBest_161 ?_
        refine lv_iadd hx hb dL_isBest_162 ?_
        refine lv_topi (fun v23 ex => ?_)
        replace hf := xl_f hf v23 ex
        clear ex
        refine lv_istore (lv' := [(6, .int v23), (0, .ref (E.a 52)), (1, .int a1), (2, .int a2), (3, .int a3), (4, .int a4), (5, .int a5)]) hx hb dL_isBest_163 hl (by decide) rfl (fun ls hl => ?_)
        refine lv_goto (tgt := 106) hx hb dL_isBest_165 (by decide) ?_
        exact ih106 a1 a2 a3 a4 a5 v23 σ22 _ _ _ (nc + 0) (ns + 0) hw (lv_sub hl [1, 2, 3, 4, 5, 6, 0] rfl) hf (by omega) (by omega)
      intro a1 a2 a3 a4 a5 a6 σ H locs ls nc ns hw hl hf hnc hns
      rw [fL_isBest_c106_s] at hf
      refine lv_iload hx hb dL_isBest_106 (lv_at hl 6 rfl) ?_
      refine lv_bipush (v := 100) hx hb dL_isBest_108 (by decide) ?_
      refine lv_icmp_ge (tgt := 168) hx hb dL_isBest_110 (by decide) (fun c110 => ?_) (fun c110 => ?_)
      · replace hf := xif_pos c110 hf
        refine lv_iconst (v := 1) hx hb dL_isBest_168 (by decide) ?_
        exact x_Lzretc hx hb hr hlk hw (by decide) hf (show nc ≤ 231 by omega) (show ns ≤ 1386 by omega) dL_isBest_169
      · replace hf := xif_neg c110 hf
        refine lv_aload_n hx hb dL_isBest_113 rfl (lv_at hl 0 rfl) ?_
        refine x_getr hx hb hw (cL52 hE) (own := RL) (ref := RL) (C := RL) (T := TL) (N := 10) hts hiL hown rfl 0 (by decide) hk10 (fun _ h9 => h9) rfl dL_isBest_114 ?_
        refine lv_iload_n hx hb dL_isBest_117 rfl (lv_at hl 1 rfl) ?_
        refine lv_iload hx hb dL_isBest_118 (lv_at hl 6 rfl) ?_
        refine lv_iload_n hx hb dL_isBest_120 rfl (lv_at hl 2 rfl) ?_
        refine lv_iload_n hx hb dL_isBest_121 rfl (lv_at hl 3 rfl) ?_
        obtain ⟨r19, σ9, hcl, hf⟩ := xco_g hf
        refine x_tcallo (vx_runV (As := [.int a1, .int a6, .int a2, .int a3]) (rest := []) ⟨hx, hb, hml, hown, hts⟩ (mX11_loss hl0 (E := xCut E σ) rfl a1 a6 a2 a3 σ (.inl r19) σ9 hcl H.size) (cwV 4 hts gL_isBest_X11_loss rfl rfl rfl (by decide +kernel) ⟨Nat.le_of_ble_eq_true rfl, Nat.le_of_ble_eq_true rfl⟩) (x_preV _ (xw_cut hE hw) hA hG (cX0 (E := xCut E σ) rfl) rfl) rfl rfl hl.1 rfl (lv_room (Nat.le_of_ble_eq_true rfl)) dL_isBest_122 ⟨show nc + 2 ≤ 231 by omega, show ns + 12 ≤ 1386 by omega⟩) (xw_cut hE hw) hA (fun H locs hw => ?_)
        obtain ⟨σ20, eρ, hw⟩ := xw_unc2 hE hw
        replace hf := hf σ20 eρ
        clear eρ hcl
        refine lv_istore (lv' := [(7, .int r19), (0, .ref (E.a 52)), (1, .int a1), (2, .int a2), (3, .int a3), (4, .int a4), (5, .int a5), (6, .int a6)]) hx hb dL_isBest_125 hl (by decide) rfl (fun ls hl => ?_)
        refine lv_iload hx hb dL_isBest_127 (lv_at hl 0 rfl) ?_
        refine lv_iload hx hb dL_isBest_129 (lv_at hl 6 rfl) ?_
        refine lv_icmp_lt (tgt := 148) hx hb dL_isBest_131 (by decide) (fun c131 => ?_) (fun c131 => ?_)
        · replace hf := xif_pos c131 hf
          refine lv_iconst (v := 0) hx hb dL_isBest_148 (by decide) ?_
          exact x_Lzretc hx hb hr hlk hw (by decide) hf (show (nc + 2) ≤ 231 by omega) (show (ns + 12) ≤ 1386 by omega) dL_isBest_149
        · replace hf := xif_neg c131 hf
          refine lv_iload hx hb dL_isBest_134 (lv_at hl 7 rfl) ?_
          refine lv_iload hx hb dL_isBest_136 (lv_at hl 5 rfl) ?_
          refine lv_icmp_ge (tgt := 150) hx hb dL_isBest_138 (by decide) (fun c138 => ?_) (fun c138 => ?_)
          · replace hf := xif_pos c138 hf
            exact h150 a1 a2 a3 a4 a5 a6 σ20 _ _ _ (nc + 2) (ns + 12) hw (lv_sub hl [1, 2, 3, 4, 5, 6, 7] rfl) hf (by omega) (by omega)
          · replace hf := xif_neg c138 hf
            refine lv_iload hx hb dL_isBest_141 (lv_at hl 0 rfl) ?_
            refine lv_iload hx hb dL_isBest_143 (lv_at hl 6 rfl) ?_
            refine lv_icmp_ne (tgt := 150) hx hb dL_isBest_145 (by decide) (fun c145 => ?_) (fun c145 => ?_)
            · replace hf := xif_neg c145 hf
              exact h150 a1 a2 a3 a4 a5 a6 σ20 _ _ _ (nc + 2) (ns + 12) hw (lv_sub hl [1, 2, 3, 4, 5, 6, 7] rfl) hf (by omega) (by omega)
            · replace hf := xif_pos c145 hf
              refine lv_iconst (v := 0) hx hb dL_isBest_148 (by decide) ?_
              exact x_Lzretc hx hb hr hlk hw (by decide) hf (show (nc + 2) ≤ 231 by omega) (show (ns + 12) ≤ 1386 by omega) dL_isBest_149
  have h24 : ∀ (n : Nat) (a1 : Int32) (a2 : Int32) (σ : xSt) (H : Heap) (locs : List Loc) (ls : Array Slot) (nc ns : Nat), xw E A s.heap s σ H locs → lv_has ls 8 [(0, .ref (E.a 52)), (1, .int a1), (2, .int a2)] → fL_isBest_c24 n a1 a2 σ = some (o1, o2) → nc + (207 + 3 * n) ≤ 231 → ns + (1242 + 18 * n) ≤ 1386 → W p l e rmL_isBest s m args below meth c H locs nc ns (MQ below (xQi E A o1 o2) args s 231 1386 A) (F0 m 24 ls []) := by
    intro n24
    induction n24 with
    | zero => intro a1 a2 σ H locs ls nc ns hw hl hf hnc hns; exact nomatch hf
    | succ n24 ih24 =>
      intro a1 a2 σ H locs ls nc ns hw hl hf hnc hns
      rw [fL_isBest_c24_s] at hf
      refine lv_iload_n hx hb dL_isBest_24 rfl (lv_at hl 2 rfl) ?_
      refine lv_if_le (tgt := 57) hx hb dL_isBest_25 (by decide) (fun c25 => ?_) (fun c25 => ?_)
      · replace hf := xif_pos c25 hf
        refine lv_aload_n hx hb dL_isBest_57 rfl (lv_at hl 0 rfl) ?_
        refine x_getr hx hb hw (cL52 hE) (own := RL) (ref := RL) (C := RL) (T := TL) (N := 10) hts hiL hown rfl 1 (by decide) hk34 (fun _ h9 => h9) rfl dL_isBest_58 ?_
        refine lv_bipush (v := 10) hx hb dL_isBest_61 (by decide) ?_
        obtain ⟨r6, σ7, hcl, hf⟩ := xc2_f hf
        refine x_callLi (va_runV (As := [.int 10]) (rest := []) ⟨hx, hb, hml, hown, hts⟩ (mX12_next hl0 hE 10 σ r6 σ7 hcl H.size) (cwV 1 hts gL_isBest_X12_next rfl rfl rfl (by decide +kernel) ⟨Nat.le_of_ble_eq_true rfl, Nat.le_of_ble_eq_true rfl⟩) (x_preLV _ hw hA hGL (cL53 hE) rfl) rfl rfl hl.1 rfl (lv_room (Nat.le_of_ble_eq_true rfl)) dL_isBest_63 ⟨show nc + 0 ≤ 231 by omega, show ns + 0 ≤ 1386 by omega⟩) hw hA (fun H locs hw => ?_)
        clear hcl
        refine lv_istore_n (lv' := [(2, .int r6), (0, .ref (E.a 52)), (1, .int a1)]) hx hb dL_isBest_66 rfl hl (by decide) rfl (fun ls hl => ?_)
        refine lv_aload_n hx hb dL_isBest_67 rfl (lv_at hl 1 rfl) ?_
        refine x_getr hx hb hw (cL52 hE) (own := RL) (ref := RL) (C := RL) (T := TL) (N := 10) hts hiL hown rfl 1 (by decide) hk34 (fun _ h9 => h9) rfl dL_isBest_68 ?_
        refine lv_bipush (v := 20) hx hb dL_isBest_71 (by decide) ?_
        obtain ⟨r8, σ9, hcl, hf⟩ := xc2_f hf
        refine x_callLi (va_runV (As := [.int 20]) (rest := []) ⟨hx, hb, hml, hown, hts⟩ (mX12_next hl0 hE 20 σ7 r8 σ9 hcl H.size) (cwV 1 hts gL_isBest_X12_next rfl rfl rfl (by decide +kernel) ⟨Nat.le_of_ble_eq_true rfl, Nat.le_of_ble_eq_true rfl⟩) (x_preLV _ hw hA hGL (cL53 hE) rfl) rfl rfl hl.1 rfl (lv_room (Nat.le_of_ble_eq_true rfl)) dL_isBest_73 ⟨show (nc + 0) + 0 ≤ 231 by omega, show (ns + 0) + 0 ≤ 1386 by omega⟩) hw hA (fun H locs hw => ?_)
        clear hcl
        refine lv_istore_n (lv' := [(3, .int r8), (2, .int r6), (0, .ref (E.a 52)), (1, .int a1)]) hx hb dL_isBest_76 rfl hl (by decide) rfl (fun ls hl => ?_)
        refine lv_aload_n hx hb dL_isBest_77 rfl (lv_at hl 2 rfl) ?_
        refine x_getr hx hb hw (cL52 hE) (own := RL) (ref := RL) (C := RL) (T := TL) (N := 10) hts hiL hown rfl 0 (by decide) hk10 (fun _ h9 => h9) rfl dL_isBest_78 ?_
        refine lv_iload_n hx hb dL_isBest_81 rfl (lv_at hl 3 rfl) ?_
        refine lv_iload_n hx hb dL_isBest_82 rfl (lv_at hl 1 rfl) ?_
        refine lv_iload_n hx hb dL_isBest_83 rfl (lv_at hl 0 rfl) ?_
        obtain ⟨r10, σ9, hcl, hf⟩ := xco_g hf
        refine x_tcallo (vx_runV (As := [.int a1, .int r6, .int r8]) (rest := []) ⟨hx, hb, hml, hown, hts⟩ (mX11_bestNumber hl0 (E := xCut E σ9) rfl a1 r6 r8 σ9 (.inl r10) σ9 hcl H.size) (cwV 3 hts gL_isBest_X11_bestNumber rfl rfl rfl (by decide +kernel) ⟨Nat.le_of_ble_eq_true rfl, Nat.le_of_ble_eq_true rfl⟩) (x_preV _ (xw_cut hE hw) hA hG (cX0 (E := xCut E σ9) rfl) rfl) rfl rfl hl.1 rfl (lv_room (Nat.le_of_ble_eq_true rfl)) dL_isBest_84 ⟨show ((nc + 0) + 0) + 3 ≤ 231 by omega, show ((ns + 0) + 0) + 18 ≤ 1386 by omega⟩) (xw_cut hE hw) hA (fun H locs hw => ?_)
        obtain ⟨σ11, eρ, hw⟩ := xw_unc2 hE hw
        replace hf := hf σ11 eρ
        clear eρ hcl
        refine lv_istore (lv' := [(4, .int r10), (3, .int r8), (2, .int r6), (0, .ref (E.a 52)), (1, .int a1)]) hx hb dL_isBest_87 hl (by decide) rfl (fun ls hl => ?_)
        refine lv_aload_n hx hb dL_isBest_89 rfl (lv_at hl 3 rfl) ?_
        refine x_getr hx hb hw (cL52 hE) (own := RL) (ref := RL) (C := RL) (T := TL) (N := 10) hts hiL hown rfl 0 (by decide) hk10 (fun _ h9 => h9) rfl dL_isBest_90 ?_
        refine lv_iload_n hx hb dL_isBest_93 rfl (lv_at hl 4 rfl) ?_
        refine lv_iload hx hb dL_isBest_94 (lv_at hl 0 rfl) ?_
        refine lv_iload_n hx hb dL_isBest_96 rfl (lv_at hl 2 rfl) ?_
        refine lv_iload_n hx hb dL_isBest_97 rfl (lv_at hl 1 rfl) ?_
        obtain ⟨r12, σ9, hcl, hf⟩ := xco_g hf
        refine x_tcallo (vx_runV (As := [.int a1, .int r10, .int r6, .int r8]) (rest := []) ⟨hx, hb, hml, hown, hts⟩ (mX11_loss hl0 (E := xCut E σ11) rfl a1 r10 r6 r8 σ11 (.inl r12) σ9 hcl H.size) (cwV 4 hts gL_isBest_X11_loss rfl rfl rfl (by decide +kernel) ⟨Nat.le_of_ble_eq_true rfl, Nat.le_of_ble_eq_true rfl⟩) (x_preV _ (xw_cut hE hw) hA hG (cX0 (E := xCut E σ11) rfl) rfl) rfl rfl hl.1 rfl (lv_room (Nat.le_of_ble_eq_true rfl)) dL_isBest_98 ⟨show (((nc + 0) + 0) + 3) + 2 ≤ 231 by omega, show (((ns + 0) + 0) + 18) + 12 ≤ 1386 by omega⟩) (xw_cut hE hw) hA (fun H locs hw => ?_)
        obtain ⟨σ13, eρ, hw⟩ := xw_unc2 hE hw
        replace hf := hf σ13 eρ
        clear eρ hcl
        refine lv_istore (lv' := [(5, .int r12), (4, .int r10), (3, .int r8), (2, .int r6), (0, .ref (E.a 52)), (1, .int a1)]) hx hb dL_isBest_101 hl (by decide) rfl (fun ls hl => ?_)
        refine lv_iconst (v := 0) hx hb dL_isBest_103 (by decide) ?_
        refine lv_istore (lv' := [(6, .int 0), (5, .int r12), (4, .int r10), (3, .int r8), (2, .int r6), (0, .ref (E.a 52)), (1, .int a1)]) hx hb dL_isBest_104 hl (by decide) rfl (fun ls hl => ?_)
        exact h106 101 a1 r6 r8 r10 r12 0 σ13 _ _ _ ((((nc + 0) + 0) + 3) + 2) ((((ns + 0) + 0) + 18) + 12) hw (lv_sub hl [5, 6, 4, 3, 2, 1, 0] rfl) hf (by omega) (by omega)
      · replace hf := xif_neg c25 hf
        refine lv_aload_n hx hb dL_isBest_28 rfl (lv_at hl 0 rfl) ?_
        refine x_getr hx hb hw (cL52 hE) (own := RL) (ref := RL) (C := RL) (T := TL) (N := 10) hts hiL hown rfl 0 (by decide) hk10 (fun _ h9 => h9) rfl dL_isBest_29 ?_
        refine lv_iload_n hx hb dL_isBest_32 rfl (lv_at hl 1 rfl) ?_
        refine lv_aload_n hx hb dL_isBest_33 rfl (lv_at hl 0 rfl) ?_
        refine x_getr hx hb hw (cL52 hE) (own := RL) (ref := RL) (C := RL) (T := TL) (N := 10) hts hiL hown rfl 1 (by decide) hk34 (fun _ h9 => h9) rfl dL_isBest_34 ?_
        refine lv_bipush (v := 100) hx hb dL_isBest_37 (by decide) ?_
        obtain ⟨r14, σ15, hcl, hf⟩ := xc2_f hf
        refine x_callLi (va_runV (As := [.int 100]) (rest := [.int a1, .ref (E.a 0)]) ⟨hx, hb, hml, hown, hts⟩ (mX12_next hl0 hE 100 σ r14 σ15 hcl H.size) (cwV 1 hts gL_isBest_X12_next rfl rfl rfl (by decide +kernel) ⟨Nat.le_of_ble_eq_true rfl, Nat.le_of_ble_eq_true rfl⟩) (x_preLV _ hw hA hGL (cL53 hE) rfl) rfl rfl hl.1 rfl (lv_room (Nat.le_of_ble_eq_true rfl)) dL_isBest_39 ⟨show nc + 0 ≤ 231 by omega, show ns + 0 ≤ 1386 by omega⟩) hw hA (fun H locs hw => ?_)
        clear hcl
        obtain ⟨r16, σ9, hcl, hf⟩ := xco_g hf
        refine x_tcallo (vx_runV (As := [.int a1, .int r14]) (rest := []) ⟨hx, hb, hml, hown, hts⟩ (mX11_note hl0 (E := xCut E σ15) rfl a1 r14 σ15 (.inl r16) σ9 hcl H.size) (cwV 2 hts gL_isBest_X11_note rfl rfl rfl (by decide +kernel) ⟨Nat.le_of_ble_eq_true rfl, Nat.le_of_ble_eq_true rfl⟩) (x_preV _ (xw_cut hE hw) hA hG (cX0 (E := xCut E σ15) rfl) rfl) rfl rfl hl.1 rfl (lv_room (Nat.le_of_ble_eq_true rfl)) dL_isBest_42 ⟨show (nc + 0) + 3 ≤ 231 by omega, show (ns + 0) + 18 ≤ 1386 by omega⟩) (xw_cut hE hw) hA (fun H locs hw => ?_)
        obtain ⟨σ17, eρ, hw⟩ := xw_unc2 hE hw
        replace hf := hf σ17 eρ
        clear eρ hcl
        refine lv_iconst (v := 1) hx hb dL_isBest_45 (by decide) ?_
        refine lv_icmp_ge (tgt := 51) hx hb dL_isBest_46 (by decide) (fun c46 => ?_) (fun c46 => ?_)
        · replace hf := xif_pos c46 hf
          obtain ⟨v18, ex⟩ : ∃ y : Int32, y = (a2 + (-1)) := ⟨_, rfl⟩
          replace hf := xl_f hf v18 ex
          refine lv_iinc (v := v18) (lv' := [(2, .int v18), (0, .ref (E.a 52)), (1, .int a1)]) hx hb dL_isBest_51 hl (k := 2) rfl (by rw [ex]; rfl) (by decide) rfl (fun ls hl => ?_)
          clear ex
          refine lv_goto (tgt := 24) hx hb dL_isBest_54 (by decide) ?_
          exact ih24 a1 v18 σ17 _ _ _ ((nc + 0) + 3) ((ns + 0) + 18) hw (lv_sub hl [1, 2, 0] rfl) hf (by omega) (by omega)
        · replace hf := xif_neg c46 hf
          refine lv_iconst (v := 0) hx hb dL_isBest_49 (by decide) ?_
          exact x_Lzretc hx hb hr hlk hw (by decide) hf (show ((nc + 0) + 3) ≤ 231 by omega) (show ((ns + 0) + 18) ≤ 1386 by omega) dL_isBest_50
  refine lv_aload_n hx hb dL_isBest_0 rfl (lv_at hl 0 rfl) ?_
  refine x_getr hx hb hw (cL52 hE) (own := RL) (ref := RL) (C := RL) (T := TL) (N := 10) hts hiL hown rfl 1 (by decide) hk34 (fun _ h9 => h9) rfl dL_isBest_1 ?_
  refine lv_aload_n hx hb dL_isBest_4 rfl (lv_at hl 0 rfl) ?_
  refine x_geti hx hb hw (cL52 hE) (own := RL) (ref := RL) (C := RL) (T := TL) (N := 10) hts hiL hown rfl 2 (by decide) hk62 (fun _ h9 => h9) rfl dL_isBest_5 ?_
  obtain ⟨r1, σ2, hcl, hf⟩ := xc2_f hf
  refine x_callLi (va_runV (As := [.int (σ 52 2)]) (rest := []) ⟨hx, hb, hml, hown, hts⟩ (mX12_next hl0 hE (σ 52 2) σ r1 σ2 hcl s.heap.size) (cwV 1 hts gL_isBest_X12_next rfl rfl rfl (by decide +kernel) ⟨Nat.le_of_ble_eq_true rfl, Nat.le_of_ble_eq_true rfl⟩) (x_preLV _ hw hA hGL (cL53 hE) rfl) rfl rfl hl.1 rfl (lv_room (Nat.le_of_ble_eq_true rfl)) dL_isBest_8 ⟨show 0 + 0 ≤ 231 by omega, show 0 + 0 ≤ 1386 by omega⟩) hw hA (fun H locs hw => ?_)
  clear hcl
  refine lv_istore_n (lv' := [(1, .int r1), (0, .ref (E.a 52))]) hx hb dL_isBest_11 rfl hl (by decide) rfl (fun ls hl => ?_)
  refine lv_iconst (v := 1) hx hb dL_isBest_12 (by decide) ?_
  refine lv_aload_n hx hb dL_isBest_13 rfl (lv_at hl 1 rfl) ?_
  refine x_getr hx hb hw (cL52 hE) (own := RL) (ref := RL) (C := RL) (T := TL) (N := 10) hts hiL hown rfl 1 (by decide) hk34 (fun _ h9 => h9) rfl dL_isBest_14 ?_
  refine lv_bipush (v := 6) hx hb dL_isBest_17 (by decide) ?_
  obtain ⟨r3, σ4, hcl, hf⟩ := xc2_f hf
  refine x_callLi (va_runV (As := [.int 6]) (rest := [.int 1]) ⟨hx, hb, hml, hown, hts⟩ (mX12_next hl0 hE 6 σ2 r3 σ4 hcl H.size) (cwV 1 hts gL_isBest_X12_next rfl rfl rfl (by decide +kernel) ⟨Nat.le_of_ble_eq_true rfl, Nat.le_of_ble_eq_true rfl⟩) (x_preLV _ hw hA hGL (cL53 hE) rfl) rfl rfl hl.1 rfl (lv_room (Nat.le_of_ble_eq_true rfl)) dL_isBest_19 ⟨show (0 + 0) + 0 ≤ 231 by omega, show (0 + 0) + 0 ≤ 1386 by omega⟩) hw hA (fun H locs hw => ?_)
  clear hcl
  refine lv_iadd hx hb dL_isBest_22 ?_
  refine lv_topi (fun v5 ex => ?_)
  replace hf := xl_f hf v5 ex
  clear ex
  refine lv_istore_n (lv' := [(2, .int v5), (1, .int r1), (0, .ref (E.a 52))]) hx hb dL_isBest_23 rfl hl (by decide) rfl (fun ls hl => ?_)
  exact h24 8 r1 v5 σ4 _ _ _ ((0 + 0) + 0) ((0 + 0) + 0) hw (lv_sub hl [2, 1, 0] rfl) hf (by omega) (by omega)

def fL_isEvening_c168 (k11 : (Int32 → xSt → Option (Int32 × xSt))) (a1 : Int32) (a4 : Int64) (σ : xSt) : Option (Int32 × xSt) := (xc2 (fL_isKept σ) fun r28 σ29 => (if r28 = 0 then some (0, σ29) else (xc2 (fX12_next 3 σ29) fun r30 σ31 => (if r30 = 0 then (xco (fX11_undo σ31) σ31 fun r33 σ34 => (if r33 < 0 then some (0, σ34) else (xcm (fX11_checksum σ34) σ34 fun r35 σ36 => (if (lg_cmp r35 a4) = 0 then (xc2 (fL_isKept σ36) fun r37 σ38 => (if r37 = 0 then some (0, σ38) else (xl (a1 + (-1)) fun v39 => k11 v39 σ38))) else some (0, σ36))))) else (xl (a1 + (-1)) fun v32 => k11 v32 σ31)))))
def fL_isEvening_c116 (k11 : (Int32 → xSt → Option (Int32 × xSt))) (a1 : Int32) (a2 : Int32) (a4 : Int64) (σ : xSt) : Option (Int32 × xSt) := (xc2 (fX12_next 3 σ) fun r20 σ21 => (if r20 = 0 then (xco (fX11_crumble a2 σ21) σ21 fun r26 σ27 => (if 0 ≤ r26 then fL_isEvening_c168 k11 a1 a4 σ27 else some (0, σ27))) else (xcm (fX11_endDay σ21) σ21 fun r22 σ23 => (if r22 < 0 then some (0, σ23) else (xco (fX11_breads a2 0 σ23) σ23 fun r24 σ25 => (if r24 = 0 then fL_isEvening_c168 k11 a1 a4 σ25 else some (0, σ25)))))))
def fL_isEvening_c32 (k11 : (Int32 → xSt → Option (Int32 × xSt))) : Nat → Int32 → Int32 → Int32 → Int32 → xSt → Option (Int32 × xSt)
  | 0 => fun _ _ _ _ _ => none
  | n + 1 => fun a1 a2 a3 a4 σ => (if 4 ≤ a4 then (xcm (fX11_checksum σ) σ fun r6 σ7 => (if a3 ≤ 0 then fL_isEvening_c116 k11 a1 a2 r6 σ7 else (xc2 (fX12_next 2 σ7) fun r8 σ9 => (if r8 = 0 then (xl (if 99 < a3 then 99 else a3) fun v10 => (xc2 (fX12_next v10 σ9) fun r11 σ12 => (xl (1 + r11) fun v13 => (xco (fX11_sell a2 v13 σ12) σ12 fun r14 σ15 => (if 0 ≤ r14 then fL_isEvening_c168 k11 a1 r6 σ15 else some (0, σ15)))))) else fL_isEvening_c116 k11 a1 a2 r6 σ9)))) else (xco (fX11_breads a2 a4 σ) σ fun r16 σ17 => (xl (a3 + r16) fun v18 => (xl (a4 + 1) fun v19 => fL_isEvening_c32 k11 n a1 a2 v18 v19 σ17))))
theorem fL_isEvening_c32_s (k11 : (Int32 → xSt → Option (Int32 × xSt))) (n : Nat) (a1 : Int32) (a2 : Int32) (a3 : Int32) (a4 : Int32) (σ : xSt) : fL_isEvening_c32 k11 (n + 1) a1 a2 a3 a4 σ = ((if 4 ≤ a4 then (xcm (fX11_checksum σ) σ fun r6 σ7 => (if a3 ≤ 0 then fL_isEvening_c116 k11 a1 a2 r6 σ7 else (xc2 (fX12_next 2 σ7) fun r8 σ9 => (if r8 = 0 then (xl (if 99 < a3 then 99 else a3) fun v10 => (xc2 (fX12_next v10 σ9) fun r11 σ12 => (xl (1 + r11) fun v13 => (xco (fX11_sell a2 v13 σ12) σ12 fun r14 σ15 => (if 0 ≤ r14 then fL_isEvening_c168 k11 a1 r6 σ15 else some (0, σ15)))))) else fL_isEvening_c116 k11 a1 a2 r6 σ9)))) else (xco (fX11_breads a2 a4 σ) σ fun r16 σ17 => (xl (a3 + r16) fun v18 => (xl (a4 + 1) fun v19 => fL_isEvening_c32 k11 n a1 a2 v18 v19 σ17)))) : Option (Int32 × xSt)) := rfl
def fL_isEvening_c11 : Nat → Int32 → xSt → Option (Int32 × xSt)
  | 0 => fun _ _ => none
  | n + 1 => fun a1 σ => (if a1 ≤ 0 then some (1, σ) else (xc2 (fX12_next (σ 52 2) σ) fun r4 σ5 => fL_isEvening_c32 (fL_isEvening_c11 n) 5 a1 r4 0 0 σ5))
theorem fL_isEvening_c11_s (n : Nat) (a1 : Int32) (σ : xSt) : fL_isEvening_c11 (n + 1) a1 σ = ((if a1 ≤ 0 then some (1, σ) else (xc2 (fX12_next (σ 52 2) σ) fun r4 σ5 => fL_isEvening_c32 (fL_isEvening_c11 n) 5 a1 r4 0 0 σ5)) : Option (Int32 × xSt)) := rfl
def fL_isEvening (σ : xSt) : Option (Int32 × xSt) := (xc2 (fX12_next 4 σ) fun r1 σ2 => (xl (1 + r1) fun v3 => fL_isEvening_c11 5 v3 σ2))
abbrev rmL_isEvening : Room := { frames := 10, cells := 240, slots := 1440, locals := 174 }
set_option maxRecDepth 100000 in
set_option maxHeartbeats 8000000 in
theorem mL_isEvening {l : Launch} (hl0 : l.stackTraces = false) {E : xE} (hE : xLE E) (σ : xSt) (o1 : Int32) (o2 : xSt) (hf : fL_isEvening σ = some (o1, o2)) : xLi l yL_isEvening wsL_isEvening rmL_isEvening E [.ref (E.a 52)] σ o1 o2 240 1440 := by
  unfold fL_isEvening at hf
  refine xLi_of (cc := cL_isEvening) (maxL := 7) (ret := (some .boolean)) (by decide) rfl (Nat.le_of_ble_eq_true rfl) ?_
  intro p e s m args below meth c A ls ⟨hx, hb, hr, hml, hown, hts, hlk⟩ hA hGL hw hl
  have hG := hGL.1
  have hown : s.vm.findClass RL = some m.cls := hown
  have hl : lv_has ls 7 [(0, .ref (E.a 52))] := hl
  have hk34 := hts (.fieldLink RL 34 "OvenRoundLaw" "d" "LOvenRoundLaw$Draws;") (by decide +kernel)
  have hiL : ∀ w ∈ wsL0, w ∈ wsL_isEvening := by decide +kernel
  have hk62 := hts (.fieldLink RL 62 "OvenRoundLaw" "recipes" "I") (by decide +kernel)
  have hk10 := hts (.fieldLink RL 10 "OvenRoundLaw" "o" "LOvenRound;") (by decide +kernel)
  have h11 : ∀ (n : Nat) (a1 : Int32) (σ : xSt) (H : Heap) (locs : List Loc) (ls : Array Slot) (nc ns : Nat), xw E A s.heap s σ H locs → lv_has ls 7 [(0, .ref (E.a 52)), (1, .int a1)] → fL_isEvening_c11 n a1 σ = some (o1, o2) → nc + (0 + 48 * n) ≤ 240 → ns + (0 + 288 * n) ≤ 1440 → W p l e rmL_isEvening s m args below meth c H locs nc ns (MQ below (xQi E A o1 o2) args s 240 1440 A) (F0 m 11 ls []) := by
    intro n11
    induction n11 with
    | zero => intro a1 σ H locs ls nc ns hw hl hf hnc hns; exact nomatch hf
    | succ n11 ih11 =>
      have h168 : ∀ (a1 : Int32) (a4 : Int64) (σ : xSt) (H : Heap) (locs : List Loc) (ls : Array Slot) (nc ns : Nat), xw E A s.heap s σ H locs → lv_has ls 7 [(0, .ref (E.a 52)), (1, .int a1), (4, .long a4)] → fL_isEvening_c168 (fL_isEvening_c11 n11) a1 a4 σ = some (o1, o2) → nc + (35 + 48 * n11) ≤ 240 → ns + (210 + 288 * n11) ≤ 1440 → W p l e rmL_isEvening s m args below meth c H locs nc ns (MQ below (xQi E A o1 o2) args s 240 1440 A) (F0 m 168 ls []) := by
        intro a1 a4 σ H locs ls nc ns hw hl hf hnc hns
        unfold fL_isEvening_c168 at hf
        refine lv_aload_n hx hb dL_isEvening_168 rfl (lv_at hl 0 rfl) ?_
        obtain ⟨r28, σ29, hcl, hf⟩ := xc2_f hf
        refine x_callLi (va_runV (As := []) (rest := []) ⟨hx, hb, hml, hown, hts⟩ (mL_isKept hl0 hE σ r28 σ29 hcl H.size) (cwV 0 hts gL_isEvening_L_isKept rfl rfl rfl (by decide +kernel) ⟨Nat.le_of_ble_eq_true rfl, Nat.le_of_ble_eq_true rfl⟩) (x_preLV _ hw hA hGL (cL52 hE) rfl) rfl rfl hl.1 rfl (lv_room (Nat.le_of_ble_eq_true rfl)) dL_isEvening_169 ⟨show nc + 17 ≤ 240 by omega, show ns + 102 ≤ 1440 by omega⟩) hw hA (fun H locs hw => ?_)
        clear hcl
        refine lv_if_ne (tgt := 177) hx hb dL_isEvening_172 (by decide) (fun c172 => ?_) (fun c172 => ?_)
        · replace hf := xif_neg c172 hf
          refine lv_aload_n hx hb dL_isEvening_177 rfl (lv_at hl 0 rfl) ?_
          refine x_getr hx hb hw (cL52 hE) (own := RL) (ref := RL) (C := RL) (T := TL) (N := 10) hts hiL hown rfl 1 (by decide) hk34 (fun _ h9 => h9) rfl dL_isEvening_178 ?_
          refine lv_iconst (v := 3) hx hb dL_isEvening_181 (by decide) ?_
          obtain ⟨r30, σ31, hcl, hf⟩ := xc2_f hf
          refine x_callLi (va_runV (As := [.int 3]) (rest := []) ⟨hx, hb, hml, hown, hts⟩ (mX12_next hl0 hE 3 σ29 r30 σ31 hcl H.size) (cwV 1 hts gL_isEvening_X12_next rfl rfl rfl (by decide +kernel) ⟨Nat.le_of_ble_eq_true rfl, Nat.le_of_ble_eq_true rfl⟩) (x_preLV _ hw hA hGL (cL53 hE) rfl) rfl rfl hl.1 rfl (lv_room (Nat.le_of_ble_eq_true rfl)) dL_isEvening_182 ⟨show (nc + 17) + 0 ≤ 240 by omega, show (ns + 102) + 0 ≤ 1440 by omega⟩) hw hA (fun H locs hw => ?_)
          clear hcl
          refine lv_if_ne (tgt := 220) hx hb dL_isEvening_185 (by decide) (fun c185 => ?_) (fun c185 => ?_)
          · replace hf := xif_neg c185 hf
            obtain ⟨v32, ex⟩ : ∃ y : Int32, y = (a1 + (-1)) := ⟨_, rfl⟩
            replace hf := xl_f hf v32 ex
            refine lv_iinc (v := v32) (lv' := [(1, .int v32), (0, .ref (E.a 52)), (4, .long a4)]) hx hb dL_isEvening_220 hl (k := 1) rfl (by rw [ex]; rfl) (by decide) rfl (fun ls hl => ?_)
            clear ex
            refine lv_goto (tgt := 11) hx hb dL_isEvening_223 (by decide) ?_
            exact ih11 v32 σ31 _ _ _ ((nc + 17) + 0) ((ns + 102) + 0) hw (lv_sub hl [1, 0] rfl) hf (by omega) (by omega)
          · replace hf := xif_pos c185 hf
            refine lv_aload_n hx hb dL_isEvening_188 rfl (lv_at hl 0 rfl) ?_
            refine x_getr hx hb hw (cL52 hE) (own := RL) (ref := RL) (C := RL) (T := TL) (N := 10) hts hiL hown rfl 0 (by decide) hk10 (fun _ h9 => h9) rfl dL_isEvening_189 ?_
            obtain ⟨r33, σ9, hcl, hf⟩ := xco_g hf
            refine x_tcallo (vx_runV (As := []) (rest := []) ⟨hx, hb, hml, hown, hts⟩ (mX11_undo hl0 (E := xCut E σ31) rfl  σ31 (.inl r33) σ9 hcl H.size) (cwV 0 hts gL_isEvening_X11_undo rfl rfl rfl (by decide +kernel) ⟨Nat.le_of_ble_eq_true rfl, Nat.le_of_ble_eq_true rfl⟩) (x_preV _ (xw_cut hE hw) hA hG (cX0 (E := xCut E σ31) rfl) rfl) rfl rfl hl.1 rfl (lv_room (Nat.le_of_ble_eq_true rfl)) dL_isEvening_192 ⟨show ((nc + 17) + 0) + 1 ≤ 240 by omega, show ((ns + 102) + 0) + 6 ≤ 1440 by omega⟩) (xw_cut hE hw) hA (fun H locs hw => ?_)
            obtain ⟨σ34, eρ, hw⟩ := xw_unc2 hE hw
            replace hf := hf σ34 eρ
            clear eρ hcl
            refine lv_if_lt (tgt := 218) hx hb dL_isEvening_195 (by decide) (fun c195 => ?_) (fun c195 => ?_)
            · replace hf := xif_pos c195 hf
              refine lv_iconst (v := 0) hx hb dL_isEvening_218 (by decide) ?_
              exact x_Lzretc hx hb hr hlk hw (by decide) hf (show (((nc + 17) + 0) + 1) ≤ 240 by omega) (show (((ns + 102) + 0) + 6) ≤ 1440 by omega) dL_isEvening_219
            · replace hf := xif_neg c195 hf
              refine lv_aload_n hx hb dL_isEvening_198 rfl (lv_at hl 0 rfl) ?_
              refine x_getr hx hb hw (cL52 hE) (own := RL) (ref := RL) (C := RL) (T := TL) (N := 10) hts hiL hown rfl 0 (by decide) hk10 (fun _ h9 => h9) rfl dL_isEvening_199 ?_
              obtain ⟨r35, σ9, hcl, hf⟩ := xcm_g hf
              refine x_calll (va_runV (As := []) (rest := []) ⟨hx, hb, hml, hown, hts⟩ (mX11_checksum (E := xCut E σ34) rfl  σ34 r35 σ9 hcl H.size) (cwV 0 hts gL_isEvening_X11_checksum rfl rfl rfl (by decide +kernel) ⟨Nat.le_of_ble_eq_true rfl, Nat.le_of_ble_eq_true rfl⟩) (x_preV _ (xw_cut hE hw) hA hG (cX0 (E := xCut E σ34) rfl) rfl) rfl rfl hl.1 rfl (lv_room (Nat.le_of_ble_eq_true rfl)) dL_isEvening_202 ⟨show (((nc + 17) + 0) + 1) + 0 ≤ 240 by omega, show (((ns + 102) + 0) + 6) + 0 ≤ 1440 by omega⟩) (xw_cut hE hw) hA (fun H locs hw => ?_)
              obtain ⟨σ36, eρ, hw⟩ := xw_unc2 hE hw
              replace hf := hf σ36 eρ
              clear eρ hcl
              refine lv_lload hx hb dL_isEvening_205 (lv_at hl 2 rfl) ?_
              refine W.lcmp hx hb dL_isEvening_207 ?_
              refine lv_if_ne (tgt := 218) hx hb dL_isEvening_208 (by decide) (fun c208 => ?_) (fun c208 => ?_)
              · replace hf := xif_neg c208 hf
                refine lv_iconst (v := 0) hx hb dL_isEvening_218 (by decide) ?_
                exact x_Lzretc hx hb hr hlk hw (by decide) hf (show (((nc + 17) + 0) + 1) ≤ 240 by omega) (show (((ns + 102) + 0) + 6) ≤ 1440 by omega) dL_isEvening_219
              · replace hf := xif_pos c208 hf
                refine lv_aload_n hx hb dL_isEvening_211 rfl (lv_at hl 0 rfl) ?_
                obtain ⟨r37, σ38, hcl, hf⟩ := xc2_f hf
                refine x_callLi (va_runV (As := []) (rest := []) ⟨hx, hb, hml, hown, hts⟩ (mL_isKept hl0 hE σ36 r37 σ38 hcl H.size) (cwV 0 hts gL_isEvening_L_isKept rfl rfl rfl (by decide +kernel) ⟨Nat.le_of_ble_eq_true rfl, Nat.le_of_ble_eq_true rfl⟩) (x_preLV _ hw hA hGL (cL52 hE) rfl) rfl rfl hl.1 rfl (lv_room (Nat.le_of_ble_eq_true rfl)) dL_isEvening_212 ⟨show (((nc + 17) + 0) + 1) + 17 ≤ 240 by omega, show (((ns + 102) + 0) + 6) + 102 ≤ 1440 by omega⟩) hw hA (fun H locs hw => ?_)
                clear hcl
                refine lv_if_ne (tgt := 220) hx hb dL_isEvening_215 (by decide) (fun c215 => ?_) (fun c215 => ?_)
                · replace hf := xif_neg c215 hf
                  obtain ⟨v39, ex⟩ : ∃ y : Int32, y = (a1 + (-1)) := ⟨_, rfl⟩
                  replace hf := xl_f hf v39 ex
                  refine lv_iinc (v := v39) (lv' := [(1, .int v39), (0, .ref (E.a 52)), (4, .long a4)]) hx hb dL_isEvening_220 hl (k := 1) rfl (by rw [ex]; rfl) (by decide) rfl (fun ls hl => ?_)
                  clear ex
                  refine lv_goto (tgt := 11) hx hb dL_isEvening_223 (by decide) ?_
                  exact ih11 v39 σ38 _ _ _ ((((nc + 17) + 0) + 1) + 17) ((((ns + 102) + 0) + 6) + 102) hw (lv_sub hl [1, 0] rfl) hf (by omega) (by omega)
                · replace hf := xif_pos c215 hf
                  refine lv_iconst (v := 0) hx hb dL_isEvening_218 (by decide) ?_
                  exact x_Lzretc hx hb hr hlk hw (by decide) hf (show ((((nc + 17) + 0) + 1) + 17) ≤ 240 by omega) (show ((((ns + 102) + 0) + 6) + 102) ≤ 1440 by omega) dL_isEvening_219
        · replace hf := xif_pos c172 hf
          refine lv_iconst (v := 0) hx hb dL_isEvening_175 (by decide) ?_
          exact x_Lzretc hx hb hr hlk hw (by decide) hf (show (nc + 17) ≤ 240 by omega) (show (ns + 102) ≤ 1440 by omega) dL_isEvening_176
      have h116 : ∀ (a1 : Int32) (a2 : Int32) (a4 : Int64) (σ : xSt) (H : Heap) (locs : List Loc) (ls : Array Slot) (nc ns : Nat), xw E A s.heap s σ H locs → lv_has ls 7 [(0, .ref (E.a 52)), (1, .int a1), (2, .int a2), (4, .long a4)] → fL_isEvening_c116 (fL_isEvening_c11 n11) a1 a2 a4 σ = some (o1, o2) → nc + (37 + 48 * n11) ≤ 240 → ns + (222 + 288 * n11) ≤ 1440 → W p l e rmL_isEvening s m args below meth c H locs nc ns (MQ below (xQi E A o1 o2) args s 240 1440 A) (F0 m 116 ls []) := by
        intro a1 a2 a4 σ H locs ls nc ns hw hl hf hnc hns
        unfold fL_isEvening_c116 at hf
        refine lv_aload_n hx hb dL_isEvening_116 rfl (lv_at hl 0 rfl) ?_
        refine x_getr hx hb hw (cL52 hE) (own := RL) (ref := RL) (C := RL) (T := TL) (N := 10) hts hiL hown rfl 1 (by decide) hk34 (fun _ h9 => h9) rfl dL_isEvening_117 ?_
        refine lv_iconst (v := 3) hx hb dL_isEvening_120 (by decide) ?_
        obtain ⟨r20, σ21, hcl, hf⟩ := xc2_f hf
        refine x_callLi (va_runV (As := [.int 3]) (rest := []) ⟨hx, hb, hml, hown, hts⟩ (mX12_next hl0 hE 3 σ r20 σ21 hcl H.size) (cwV 1 hts gL_isEvening_X12_next rfl rfl rfl (by decide +kernel) ⟨Nat.le_of_ble_eq_true rfl, Nat.le_of_ble_eq_true rfl⟩) (x_preLV _ hw hA hGL (cL53 hE) rfl) rfl rfl hl.1 rfl (lv_room (Nat.le_of_ble_eq_true rfl)) dL_isEvening_121 ⟨show nc + 0 ≤ 240 by omega, show ns + 0 ≤ 1440 by omega⟩) hw hA (fun H locs hw => ?_)
        clear hcl
        refine lv_if_ne (tgt := 140) hx hb dL_isEvening_124 (by decide) (fun c124 => ?_) (fun c124 => ?_)
        · replace hf := xif_neg c124 hf
          refine lv_aload_n hx hb dL_isEvening_140 rfl (lv_at hl 0 rfl) ?_
          refine x_getr hx hb hw (cL52 hE) (own := RL) (ref := RL) (C := RL) (T := TL) (N := 10) hts hiL hown rfl 0 (by decide) hk10 (fun _ h9 => h9) rfl dL_isEvening_141 ?_
          obtain ⟨r22, σ9, hcl, hf⟩ := xcm_g hf
          refine x_calli (va_runV (As := []) (rest := []) ⟨hx, hb, hml, hown, hts⟩ (mX11_endDay (E := xCut E σ21) rfl  σ21 r22 σ9 hcl H.size) (cwV 0 hts gL_isEvening_X11_endDay rfl rfl rfl (by decide +kernel) ⟨Nat.le_of_ble_eq_true rfl, Nat.le_of_ble_eq_true rfl⟩) (x_preV _ (xw_cut hE hw) hA hG (cX0 (E := xCut E σ21) rfl) rfl) rfl rfl hl.1 rfl (lv_room (Nat.le_of_ble_eq_true rfl)) dL_isEvening_144 ⟨show (nc + 0) + 0 ≤ 240 by omega, show (ns + 0) + 0 ≤ 1440 by omega⟩) (xw_cut hE hw) hA (fun H locs hw => ?_)
          obtain ⟨σ23, eρ, hw⟩ := xw_unc2 hE hw
          replace hf := hf σ23 eρ
          clear eρ hcl
          refine lv_istore (lv' := [(6, .int r22), (0, .ref (E.a 52)), (1, .int a1), (2, .int a2), (4, .long a4)]) hx hb dL_isEvening_147 hl (by decide) rfl (fun ls hl => ?_)
          refine lv_iload hx hb dL_isEvening_149 (lv_at hl 0 rfl) ?_
          refine lv_if_lt (tgt := 166) hx hb dL_isEvening_151 (by decide) (fun c151 => ?_) (fun c151 => ?_)
          · replace hf := xif_pos c151 hf
            refine lv_iconst (v := 0) hx hb dL_isEvening_166 (by decide) ?_
            exact x_Lzretc hx hb hr hlk hw (by decide) hf (show (nc + 0) ≤ 240 by omega) (show (ns + 0) ≤ 1440 by omega) dL_isEvening_167
          · replace hf := xif_neg c151 hf
            refine lv_aload_n hx hb dL_isEvening_154 rfl (lv_at hl 1 rfl) ?_
            refine x_getr hx hb hw (cL52 hE) (own := RL) (ref := RL) (C := RL) (T := TL) (N := 10) hts hiL hown rfl 0 (by decide) hk10 (fun _ h9 => h9) rfl dL_isEvening_155 ?_
            refine lv_iload_n hx hb dL_isEvening_158 rfl (lv_at hl 3 rfl) ?_
            refine lv_iconst (v := 0) hx hb dL_isEvening_159 (by decide) ?_
            obtain ⟨r24, σ9, hcl, hf⟩ := xco_g hf
            refine x_tcallo (vx_runV (As := [.int a2, .int 0]) (rest := []) ⟨hx, hb, hml, hown, hts⟩ (mX11_breads hl0 (E := xCut E σ23) rfl a2 0 σ23 (.inl r24) σ9 hcl H.size) (cwV 2 hts gL_isEvening_X11_breads rfl rfl rfl (by decide +kernel) ⟨Nat.le_of_ble_eq_true rfl, Nat.le_of_ble_eq_true rfl⟩) (x_preV _ (xw_cut hE hw) hA hG (cX0 (E := xCut E σ23) rfl) rfl) rfl rfl hl.1 rfl (lv_room (Nat.le_of_ble_eq_true rfl)) dL_isEvening_160 ⟨show (nc + 0) + 2 ≤ 240 by omega, show (ns + 0) + 12 ≤ 1440 by omega⟩) (xw_cut hE hw) hA (fun H locs hw => ?_)
            obtain ⟨σ25, eρ, hw⟩ := xw_unc2 hE hw
            replace hf := hf σ25 eρ
            clear eρ hcl
            refine lv_if_eq (tgt := 168) hx hb dL_isEvening_163 (by decide) (fun c163 => ?_) (fun c163 => ?_)
            · replace hf := xif_pos c163 hf
              exact h168 a1 a4 σ25 _ _ _ ((nc + 0) + 2) ((ns + 0) + 12) hw (lv_sub hl [1, 2, 4] rfl) hf (by omega) (by omega)
            · replace hf := xif_neg c163 hf
              refine lv_iconst (v := 0) hx hb dL_isEvening_166 (by decide) ?_
              exact x_Lzretc hx hb hr hlk hw (by decide) hf (show ((nc + 0) + 2) ≤ 240 by omega) (show ((ns + 0) + 12) ≤ 1440 by omega) dL_isEvening_167
        · replace hf := xif_pos c124 hf
          refine lv_aload_n hx hb dL_isEvening_127 rfl (lv_at hl 0 rfl) ?_
          refine x_getr hx hb hw (cL52 hE) (own := RL) (ref := RL) (C := RL) (T := TL) (N := 10) hts hiL hown rfl 0 (by decide) hk10 (fun _ h9 => h9) rfl dL_isEvening_128 ?_
          refine lv_iload_n hx hb dL_isEvening_131 rfl (lv_at hl 2 rfl) ?_
          obtain ⟨r26, σ9, hcl, hf⟩ := xco_g hf
          refine x_tcallo (vx_runV (As := [.int a2]) (rest := []) ⟨hx, hb, hml, hown, hts⟩ (mX11_crumble hl0 (E := xCut E σ21) rfl a2 σ21 (.inl r26) σ9 hcl H.size) (cwV 1 hts gL_isEvening_X11_crumble rfl rfl rfl (by decide +kernel) ⟨Nat.le_of_ble_eq_true rfl, Nat.le_of_ble_eq_true rfl⟩) (x_preV _ (xw_cut hE hw) hA hG (cX0 (E := xCut E σ21) rfl) rfl) rfl rfl hl.1 rfl (lv_room (Nat.le_of_ble_eq_true rfl)) dL_isEvening_132 ⟨show (nc + 0) + 1 ≤ 240 by omega, show (ns + 0) + 6 ≤ 1440 by omega⟩) (xw_cut hE hw) hA (fun H locs hw => ?_)
          obtain ⟨σ27, eρ, hw⟩ := xw_unc2 hE hw
          replace hf := hf σ27 eρ
          clear eρ hcl
          refine lv_if_ge (tgt := 168) hx hb dL_isEvening_135 (by decide) (fun c135 => ?_) (fun c135 => ?_)
          · replace hf := xif_pos c135 hf
            exact h168 a1 a4 σ27 _ _ _ ((nc + 0) + 1) ((ns + 0) + 6) hw (lv_sub hl [0, 1, 3] rfl) hf (by omega) (by omega)
          · replace hf := xif_neg c135 hf
            refine lv_iconst (v := 0) hx hb dL_isEvening_138 (by decide) ?_
            exact x_Lzretc hx hb hr hlk hw (by decide) hf (show ((nc + 0) + 1) ≤ 240 by omega) (show ((ns + 0) + 6) ≤ 1440 by omega) dL_isEvening_139
      have h32 : ∀ (n : Nat) (a1 : Int32) (a2 : Int32) (a3 : Int32) (a4 : Int32) (σ : xSt) (H : Heap) (locs : List Loc) (ls : Array Slot) (nc ns : Nat), xw E A s.heap s σ H locs → lv_has ls 7 [(0, .ref (E.a 52)), (1, .int a1), (2, .int a2), (3, .int a3), (4, .int a4)] → fL_isEvening_c32 (fL_isEvening_c11 n11) n a1 a2 a3 a4 σ = some (o1, o2) → nc + (38 + 48 * n11 + 2 * n) ≤ 240 → ns + (228 + 288 * n11 + 12 * n) ≤ 1440 → W p l e rmL_isEvening s m args below meth c H locs nc ns (MQ below (xQi E A o1 o2) args s 240 1440 A) (F0 m 32 ls []) := by
        intro n32
        induction n32 with
        | zero => intro a1 a2 a3 a4 σ H locs ls nc ns hw hl hf hnc hns; exact nomatch hf
        | succ n32 ih32 =>
          intro a1 a2 a3 a4 σ H locs ls nc ns hw hl hf hnc hns
          rw [fL_isEvening_c32_s] at hf
          refine lv_iload hx hb dL_isEvening_32 (lv_at hl 4 rfl) ?_
          refine lv_iconst (v := 4) hx hb dL_isEvening_34 (by decide) ?_
          refine lv_icmp_ge (tgt := 57) hx hb dL_isEvening_35 (by decide) (fun c35 => ?_) (fun c35 => ?_)
          · replace hf := xif_pos c35 hf
            refine lv_aload_n hx hb dL_isEvening_57 rfl (lv_at hl 0 rfl) ?_
            refine x_getr hx hb hw (cL52 hE) (own := RL) (ref := RL) (C := RL) (T := TL) (N := 10) hts hiL hown rfl 0 (by decide) hk10 (fun _ h9 => h9) rfl dL_isEvening_58 ?_
            obtain ⟨r6, σ9, hcl, hf⟩ := xcm_g hf
            refine x_calll (va_runV (As := []) (rest := []) ⟨hx, hb, hml, hown, hts⟩ (mX11_checksum (E := xCut E σ) rfl  σ r6 σ9 hcl H.size) (cwV 0 hts gL_isEvening_X11_checksum rfl rfl rfl (by decide +kernel) ⟨Nat.le_of_ble_eq_true rfl, Nat.le_of_ble_eq_true rfl⟩) (x_preV _ (xw_cut hE hw) hA hG (cX0 (E := xCut E σ) rfl) rfl) rfl rfl hl.1 rfl (lv_room (Nat.le_of_ble_eq_true rfl)) dL_isEvening_61 ⟨show nc + 0 ≤ 240 by omega, show ns + 0 ≤ 1440 by omega⟩) (xw_cut hE hw) hA (fun H locs hw => ?_)
            obtain ⟨σ7, eρ, hw⟩ := xw_unc2 hE hw
            replace hf := hf σ7 eρ
            clear eρ hcl
            refine lv_lstore (lv' := [(4, .long r6), (0, .ref (E.a 52)), (1, .int a1), (2, .int a2), (3, .int a3)]) hx hb dL_isEvening_64 hl (by decide) rfl (fun ls hl => ?_)
            refine lv_iload_n hx hb dL_isEvening_66 rfl (lv_at hl 4 rfl) ?_
            refine lv_if_le (tgt := 116) hx hb dL_isEvening_67 (by decide) (fun c67 => ?_) (fun c67 => ?_)
            · replace hf := xif_pos c67 hf
              exact h116 a1 a2 r6 σ7 _ _ _ nc ns hw (lv_sub hl [1, 2, 3, 0] rfl) hf (by omega) (by omega)
            · replace hf := xif_neg c67 hf
              refine lv_aload_n hx hb dL_isEvening_70 rfl (lv_at hl 1 rfl) ?_
              refine x_getr hx hb hw (cL52 hE) (own := RL) (ref := RL) (C := RL) (T := TL) (N := 10) hts hiL hown rfl 1 (by decide) hk34 (fun _ h9 => h9) rfl dL_isEvening_71 ?_
              refine lv_iconst (v := 2) hx hb dL_isEvening_74 (by decide) ?_
              obtain ⟨r8, σ9, hcl, hf⟩ := xc2_f hf
              refine x_callLi (va_runV (As := [.int 2]) (rest := []) ⟨hx, hb, hml, hown, hts⟩ (mX12_next hl0 hE 2 σ7 r8 σ9 hcl H.size) (cwV 1 hts gL_isEvening_X12_next rfl rfl rfl (by decide +kernel) ⟨Nat.le_of_ble_eq_true rfl, Nat.le_of_ble_eq_true rfl⟩) (x_preLV _ hw hA hGL (cL53 hE) rfl) rfl rfl hl.1 rfl (lv_room (Nat.le_of_ble_eq_true rfl)) dL_isEvening_75 ⟨show nc + 0 ≤ 240 by omega, show ns + 0 ≤ 1440 by omega⟩) hw hA (fun H locs hw => ?_)
              clear hcl
              refine lv_if_ne (tgt := 116) hx hb dL_isEvening_78 (by decide) (fun c78 => ?_) (fun c78 => ?_)
              · replace hf := xif_neg c78 hf
                exact h116 a1 a2 r6 σ9 _ _ _ (nc + 0) (ns + 0) hw (lv_sub hl [1, 2, 3, 0] rfl) hf (by omega) (by omega)
              · replace hf := xif_pos c78 hf
                refine lv_iconst (v := 1) hx hb dL_isEvening_81 (by decide) ?_
                refine lv_aload_n hx hb dL_isEvening_82 rfl (lv_at hl 1 rfl) ?_
                refine x_getr hx hb hw (cL52 hE) (own := RL) (ref := RL) (C := RL) (T := TL) (N := 10) hts hiL hown rfl 1 (by decide) hk34 (fun _ h9 => h9) rfl dL_isEvening_83 ?_
                refine lv_iload_n hx hb dL_isEvening_86 rfl (lv_at hl 4 rfl) ?_
                refine lv_bipush (v := 99) hx hb dL_isEvening_87 (by decide) ?_
                refine va_mmin hx hb (hml.trans hl.1.symm) hown (hts (.methodLink RL 206 Lib.Math.min.name) (by decide +kernel)) (hts (.static Lib.Math.min.name) (by decide +kernel)) (hts (.initialized "java/lang/Math") (by decide +kernel)) (hts (.code Lib.Math.min.name Lib.Math.min.code 2 (some .int)) (by decide +kernel)) (Nat.le_of_ble_eq_true rfl) (Nat.le_of_ble_eq_true rfl) (Nat.le_of_ble_eq_true rfl) (Nat.le_of_ble_eq_true rfl) dL_isEvening_89 ?_
                refine lv_topi (fun v10 ex => ?_)
                replace hf := xl_f hf v10 ex
                clear ex
                obtain ⟨r11, σ12, hcl, hf⟩ := xc2_f hf
                refine x_callLi (va_runV (As := [.int v10]) (rest := [.int 1]) ⟨hx, hb, hml, hown, hts⟩ (mX12_next hl0 hE v10 σ9 r11 σ12 hcl H.size) (cwV 1 hts gL_isEvening_X12_next rfl rfl rfl (by decide +kernel) ⟨Nat.le_of_ble_eq_true rfl, Nat.le_of_ble_eq_true rfl⟩) (x_preLV _ hw hA hGL (cL53 hE) rfl) rfl rfl hl.1 rfl (lv_room (Nat.le_of_ble_eq_true rfl)) dL_isEvening_92 ⟨show (nc + 0) + 0 ≤ 240 by omega, show (ns + 0) + 0 ≤ 1440 by omega⟩) hw hA (fun H locs hw => ?_)
                clear hcl
                refine lv_iadd hx hb dL_isEvening_95 ?_
                refine lv_topi (fun v13 ex => ?_)
                replace hf := xl_f hf v13 ex
                clear ex
                refine lv_istore (lv' := [(6, .int v13), (4, .long r6), (0, .ref (E.a 52)), (1, .int a1), (2, .int a2), (3, .int a3)]) hx hb dL_isEvening_96 hl (by decide) rfl (fun ls hl => ?_)
                refine lv_aload_n hx hb dL_isEvening_98 rfl (lv_at hl 2 rfl) ?_
                refine x_getr hx hb hw (cL52 hE) (own := RL) (ref := RL) (C := RL) (T := TL) (N := 10) hts hiL hown rfl 0 (by decide) hk10 (fun _ h9 => h9) rfl dL_isEvening_99 ?_
                refine lv_iload_n hx hb dL_isEvening_102 rfl (lv_at hl 4 rfl) ?_
                refine lv_iload hx hb dL_isEvening_103 (lv_at hl 0 rfl) ?_
                obtain ⟨r14, σ9, hcl, hf⟩ := xco_g hf
                refine x_tcallo (vx_runV (As := [.int a2, .int v13]) (rest := []) ⟨hx, hb, hml, hown, hts⟩ (mX11_sell hl0 (E := xCut E σ12) rfl a2 v13 σ12 (.inl r14) σ9 hcl H.size) (cwV 2 hts gL_isEvening_X11_sell rfl rfl rfl (by decide +kernel) ⟨Nat.le_of_ble_eq_true rfl, Nat.le_of_ble_eq_true rfl⟩) (x_preV _ (xw_cut hE hw) hA hG (cX0 (E := xCut E σ12) rfl) rfl) rfl rfl hl.1 rfl (lv_room (Nat.le_of_ble_eq_true rfl)) dL_isEvening_105 ⟨show ((nc + 0) + 0) + 3 ≤ 240 by omega, show ((ns + 0) + 0) + 18 ≤ 1440 by omega⟩) (xw_cut hE hw) hA (fun H locs hw => ?_)
                obtain ⟨σ15, eρ, hw⟩ := xw_unc2 hE hw
                replace hf := hf σ15 eρ
                clear eρ hcl
                refine lv_if_ge (tgt := 113) hx hb dL_isEvening_108 (by decide) (fun c108 => ?_) (fun c108 => ?_)
                · replace hf := xif_pos c108 hf
                  refine lv_goto (tgt := 168) hx hb dL_isEvening_113 (by decide) ?_
                  exact h168 a1 r6 σ15 _ _ _ (((nc + 0) + 0) + 3) (((ns + 0) + 0) + 18) hw (lv_sub hl [2, 3, 1] rfl) hf (by omega) (by omega)
                · replace hf := xif_neg c108 hf
                  refine lv_iconst (v := 0) hx hb dL_isEvening_111 (by decide) ?_
                  exact x_Lzretc hx hb hr hlk hw (by decide) hf (show (((nc + 0) + 0) + 3) ≤ 240 by omega) (show (((ns + 0) + 0) + 18) ≤ 1440 by omega) dL_isEvening_112
          · replace hf := xif_neg c35 hf
            refine lv_iload_n hx hb dL_isEvening_38 rfl (lv_at hl 3 rfl) ?_
            refine lv_aload_n hx hb dL_isEvening_39 rfl (lv_at hl 0 rfl) ?_
            refine x_getr hx hb hw (cL52 hE) (own := RL) (ref := RL) (C := RL) (T := TL) (N := 10) hts hiL hown rfl 0 (by decide) hk10 (fun _ h9 => h9) rfl dL_isEvening_40 ?_
            refine lv_iload_n hx hb dL_isEvening_43 rfl (lv_at hl 2 rfl) ?_
            refine lv_iload hx hb dL_isEvening_44 (lv_at hl 4 rfl) ?_
            obtain ⟨r16, σ9, hcl, hf⟩ := xco_g hf
            refine x_tcallo (vx_runV (As := [.int a2, .int a4]) (rest := [.int a3]) ⟨hx, hb, hml, hown, hts⟩ (mX11_breads hl0 (E := xCut E σ) rfl a2 a4 σ (.inl r16) σ9 hcl H.size) (cwV 2 hts gL_isEvening_X11_breads rfl rfl rfl (by decide +kernel) ⟨Nat.le_of_ble_eq_true rfl, Nat.le_of_ble_eq_true rfl⟩) (x_preV _ (xw_cut hE hw) hA hG (cX0 (E := xCut E σ) rfl) rfl) rfl rfl hl.1 rfl (lv_room (Nat.le_of_ble_eq_true rfl)) dL_isEvening_46 ⟨show nc + 2 ≤ 240 by omega, show ns + 12 ≤ 1440 by omega⟩) (xw_cut hE hw) hA (fun H locs hw => ?_)
            obtain ⟨σ17, eρ, hw⟩ := xw_unc2 hE hw
            replace hf := hf σ17 eρ
            clear eρ hcl
            refine lv_iadd hx hb dL_isEvening_49 ?_
            refine lv_topi (fun v18 ex => ?_)
            replace hf := xl_f hf v18 ex
            clear ex
            refine lv_istore_n (lv' := [(3, .int v18), (0, .ref (E.a 52)), (1, .int a1), (2, .int a2), (4, .int a4)]) hx hb dL_isEvening_50 rfl hl (by decide) rfl (fun ls hl => ?_)
            obtain ⟨v19, ex⟩ : ∃ y : Int32, y = (a4 + 1) := ⟨_, rfl⟩
            replace hf := xl_f hf v19 ex
            refine lv_iinc (v := v19) (lv' := [(4, .int v19), (3, .int v18), (0, .ref (E.a 52)), (1, .int a1), (2, .int a2)]) hx hb dL_isEvening_51 hl (k := 4) rfl (by rw [ex]; rfl) (by decide) rfl (fun ls hl => ?_)
            clear ex
            refine lv_goto (tgt := 32) hx hb dL_isEvening_54 (by decide) ?_
            exact ih32 a1 a2 v18 v19 σ17 _ _ _ (nc + 2) (ns + 12) hw (lv_sub hl [2, 3, 4, 1, 0] rfl) hf (by omega) (by omega)
      intro a1 σ H locs ls nc ns hw hl hf hnc hns
      rw [fL_isEvening_c11_s] at hf
      refine lv_iload_n hx hb dL_isEvening_11 rfl (lv_at hl 1 rfl) ?_
      refine lv_if_le (tgt := 226) hx hb dL_isEvening_12 (by decide) (fun c12 => ?_) (fun c12 => ?_)
      · replace hf := xif_pos c12 hf
        refine lv_iconst (v := 1) hx hb dL_isEvening_226 (by decide) ?_
        exact x_Lzretc hx hb hr hlk hw (by decide) hf (show nc ≤ 240 by omega) (show ns ≤ 1440 by omega) dL_isEvening_227
      · replace hf := xif_neg c12 hf
        refine lv_aload_n hx hb dL_isEvening_15 rfl (lv_at hl 0 rfl) ?_
        refine x_getr hx hb hw (cL52 hE) (own := RL) (ref := RL) (C := RL) (T := TL) (N := 10) hts hiL hown rfl 1 (by decide) hk34 (fun _ h9 => h9) rfl dL_isEvening_16 ?_
        refine lv_aload_n hx hb dL_isEvening_19 rfl (lv_at hl 0 rfl) ?_
        refine x_geti hx hb hw (cL52 hE) (own := RL) (ref := RL) (C := RL) (T := TL) (N := 10) hts hiL hown rfl 2 (by decide) hk62 (fun _ h9 => h9) rfl dL_isEvening_20 ?_
        obtain ⟨r4, σ5, hcl, hf⟩ := xc2_f hf
        refine x_callLi (va_runV (As := [.int (σ 52 2)]) (rest := []) ⟨hx, hb, hml, hown, hts⟩ (mX12_next hl0 hE (σ 52 2) σ r4 σ5 hcl H.size) (cwV 1 hts gL_isEvening_X12_next rfl rfl rfl (by decide +kernel) ⟨Nat.le_of_ble_eq_true rfl, Nat.le_of_ble_eq_true rfl⟩) (x_preLV _ hw hA hGL (cL53 hE) rfl) rfl rfl hl.1 rfl (lv_room (Nat.le_of_ble_eq_true rfl)) dL_isEvening_23 ⟨show nc + 0 ≤ 240 by omega, show ns + 0 ≤ 1440 by omega⟩) hw hA (fun H locs hw => ?_)
        clear hcl
        refine lv_istore_n (lv' := [(2, .int r4), (0, .ref (E.a 52)), (1, .int a1)]) hx hb dL_isEvening_26 rfl hl (by decide) rfl (fun ls hl => ?_)
        refine lv_iconst (v := 0) hx hb dL_isEvening_27 (by decide) ?_
        refine lv_istore_n (lv' := [(3, .int 0), (2, .int r4), (0, .ref (E.a 52)), (1, .int a1)]) hx hb dL_isEvening_28 rfl hl (by decide) rfl (fun ls hl => ?_)
        refine lv_iconst (v := 0) hx hb dL_isEvening_29 (by decide) ?_
        refine lv_istore (lv' := [(4, .int 0), (3, .int 0), (2, .int r4), (0, .ref (E.a 52)), (1, .int a1)]) hx hb dL_isEvening_30 hl (by decide) rfl (fun ls hl => ?_)
        exact h32 5 a1 r4 0 0 σ5 _ _ _ (nc + 0) (ns + 0) hw (lv_sub hl [3, 4, 2, 1, 0] rfl) hf (by omega) (by omega)
  refine lv_iconst (v := 1) hx hb dL_isEvening_0 (by decide) ?_
  refine lv_aload_n hx hb dL_isEvening_1 rfl (lv_at hl 0 rfl) ?_
  refine x_getr hx hb hw (cL52 hE) (own := RL) (ref := RL) (C := RL) (T := TL) (N := 10) hts hiL hown rfl 1 (by decide) hk34 (fun _ h9 => h9) rfl dL_isEvening_2 ?_
  refine lv_iconst (v := 4) hx hb dL_isEvening_5 (by decide) ?_
  obtain ⟨r1, σ2, hcl, hf⟩ := xc2_f hf
  refine x_callLi (va_runV (As := [.int 4]) (rest := [.int 1]) ⟨hx, hb, hml, hown, hts⟩ (mX12_next hl0 hE 4 σ r1 σ2 hcl s.heap.size) (cwV 1 hts gL_isEvening_X12_next rfl rfl rfl (by decide +kernel) ⟨Nat.le_of_ble_eq_true rfl, Nat.le_of_ble_eq_true rfl⟩) (x_preLV _ hw hA hGL (cL53 hE) rfl) rfl rfl hl.1 rfl (lv_room (Nat.le_of_ble_eq_true rfl)) dL_isEvening_6 ⟨show 0 + 0 ≤ 240 by omega, show 0 + 0 ≤ 1440 by omega⟩) hw hA (fun H locs hw => ?_)
  clear hcl
  refine lv_iadd hx hb dL_isEvening_9 ?_
  refine lv_topi (fun v3 ex => ?_)
  replace hf := xl_f hf v3 ex
  clear ex
  refine lv_istore_n (lv' := [(1, .int v3), (0, .ref (E.a 52))]) hx hb dL_isEvening_10 rfl hl (by decide) rfl (fun ls hl => ?_)
  exact h11 5 v3 σ2 _ _ _ (0 + 0) (0 + 0) hw (lv_sub hl [1, 0] rfl) hf (by omega) (by omega)

def fL_isClean_c96 (k38 : (Int32 → Int32 → Int32 → Int32 → Int32 → Int32 → xSt → Option (Int32 × xSt))) (a1 : Int32) (a2 : Int32) (a4 : Int32) (a6 : Int32) (a7 : Int32) (t0 : Int32) (t1 : Int32) (σ : xSt) : Option (Int32 × xSt) := (xl (t1 + t0) fun v14 => (xl (a4 ||| ((1 : Int32) <<< (a7 &&& 31))) fun v15 => (xl (a6 + 1) fun v16 => k38 a1 a2 v14 v15 a7 v16 σ)))
def fL_isClean_c38 : Nat → Int32 → Int32 → Int32 → Int32 → Int32 → Int32 → xSt → Option (Int32 × xSt)
  | 0 => fun _ _ _ _ _ _ _ => none
  | n + 1 => fun a1 a2 a3 a4 a5 a6 σ => (if a4 = a1 then (if a3 = a2 then (xc2 (fL_cheapest 6 a1 (-1) σ) fun r6 σ7 => (if a2 = r6 then (xco (fX11_cleaning 0 σ7) σ7 fun r8 σ9 => (if r8 = 0 then some (1, σ9) else some (0, σ9))) else some (0, σ7))) else some (0, σ)) else (xco (fX11_rowAt a1 a6 σ) σ fun r10 σ11 => (if ((a1 >>> (r10 &&& 31)) &&& 1) = 0 then some (0, σ11) else (if ((a4 >>> (r10 &&& 31)) &&& 1) = 1 then some (0, σ11) else (if 0 ≤ a5 then (xc2 (fL_price a5 r10 σ11) fun r12 σ13 => fL_isClean_c96 (fL_isClean_c38 n) a1 a2 a4 a6 r10 r12 a3 σ13) else fL_isClean_c96 (fL_isClean_c38 n) a1 a2 a4 a6 r10 0 a3 σ11)))))
theorem fL_isClean_c38_s (n : Nat) (a1 : Int32) (a2 : Int32) (a3 : Int32) (a4 : Int32) (a5 : Int32) (a6 : Int32) (σ : xSt) : fL_isClean_c38 (n + 1) a1 a2 a3 a4 a5 a6 σ = ((if a4 = a1 then (if a3 = a2 then (xc2 (fL_cheapest 6 a1 (-1) σ) fun r6 σ7 => (if a2 = r6 then (xco (fX11_cleaning 0 σ7) σ7 fun r8 σ9 => (if r8 = 0 then some (1, σ9) else some (0, σ9))) else some (0, σ7))) else some (0, σ)) else (xco (fX11_rowAt a1 a6 σ) σ fun r10 σ11 => (if ((a1 >>> (r10 &&& 31)) &&& 1) = 0 then some (0, σ11) else (if ((a4 >>> (r10 &&& 31)) &&& 1) = 1 then some (0, σ11) else (if 0 ≤ a5 then (xc2 (fL_price a5 r10 σ11) fun r12 σ13 => fL_isClean_c96 (fL_isClean_c38 n) a1 a2 a4 a6 r10 r12 a3 σ13) else fL_isClean_c96 (fL_isClean_c38 n) a1 a2 a4 a6 r10 0 a3 σ11))))) : Option (Int32 × xSt)) := rfl
def fL_isClean (σ : xSt) : Option (Int32 × xSt) := (xc2 (fX12_next (((1 : Int32) <<< ((σ 52 2) &&& 31)) - 1) σ) fun r1 σ2 => (xl (1 + r1) fun v3 => (xco (fX11_cleaning v3 σ2) σ2 fun r4 σ5 => fL_isClean_c38 6 v3 r4 0 0 (-1) 0 σ5)))
abbrev rmL_isClean : Room := { frames := 14, cells := 14, slots := 84, locals := 414 }
set_option maxRecDepth 100000 in
set_option maxHeartbeats 8000000 in
theorem mL_isClean {l : Launch} (hl0 : l.stackTraces = false) {E : xE} (hE : xLE E) (σ : xSt) (o1 : Int32) (o2 : xSt) (hf : fL_isClean σ = some (o1, o2)) : xLi l yL_isClean wsL_isClean rmL_isClean E [.ref (E.a 52)] σ o1 o2 14 84 := by
  unfold fL_isClean at hf
  refine xLi_of (cc := cL_isClean) (maxL := 8) (ret := (some .boolean)) (by decide) rfl (Nat.le_of_ble_eq_true rfl) ?_
  intro p e s m args below meth c A ls ⟨hx, hb, hr, hml, hown, hts, hlk⟩ hA hGL hw hl
  have hG := hGL.1
  have hown : s.vm.findClass RL = some m.cls := hown
  have hl : lv_has ls 8 [(0, .ref (E.a 52))] := hl
  have hk34 := hts (.fieldLink RL 34 "OvenRoundLaw" "d" "LOvenRoundLaw$Draws;") (by decide +kernel)
  have hiL : ∀ w ∈ wsL0, w ∈ wsL_isClean := by decide +kernel
  have hk62 := hts (.fieldLink RL 62 "OvenRoundLaw" "recipes" "I") (by decide +kernel)
  have hk10 := hts (.fieldLink RL 10 "OvenRoundLaw" "o" "LOvenRound;") (by decide +kernel)
  have h38 : ∀ (n : Nat) (a1 : Int32) (a2 : Int32) (a3 : Int32) (a4 : Int32) (a5 : Int32) (a6 : Int32) (σ : xSt) (H : Heap) (locs : List Loc) (ls : Array Slot) (nc ns : Nat), xw E A s.heap s σ H locs → lv_has ls 8 [(0, .ref (E.a 52)), (1, .int a1), (2, .int a2), (3, .int a3), (4, .int a4), (5, .int a5), (6, .int a6)] → fL_isClean_c38 n a1 a2 a3 a4 a5 a6 σ = some (o1, o2) → nc + (1 + 2 * n) ≤ 14 → ns + (6 + 12 * n) ≤ 84 → W p l e rmL_isClean s m args below meth c H locs nc ns (MQ below (xQi E A o1 o2) args s 14 84 A) (F0 m 38 ls []) := by
    intro n38
    induction n38 with
    | zero => intro a1 a2 a3 a4 a5 a6 σ H locs ls nc ns hw hl hf hnc hns; exact nomatch hf
    | succ n38 ih38 =>
      have h96 : ∀ (a1 : Int32) (a2 : Int32) (a4 : Int32) (a6 : Int32) (a7 : Int32) (t0 : Int32) (t1 : Int32) (σ : xSt) (H : Heap) (locs : List Loc) (ls : Array Slot) (nc ns : Nat), xw E A s.heap s σ H locs → lv_has ls 8 [(0, .ref (E.a 52)), (1, .int a1), (2, .int a2), (4, .int a4), (6, .int a6), (7, .int a7)] → fL_isClean_c96 (fL_isClean_c38 n38) a1 a2 a4 a6 a7 t0 t1 σ = some (o1, o2) → nc + (1 + 2 * n38) ≤ 14 → ns + (6 + 12 * n38) ≤ 84 → W p l e rmL_isClean s m args below meth c H locs nc ns (MQ below (xQi E A o1 o2) args s 14 84 A) (F0 m 96 ls [.int t0, .int t1]) := by
        intro a1 a2 a4 a6 a7 t0 t1 σ H locs ls nc ns hw hl hf hnc hns
        unfold fL_isClean_c96 at hf
        refine lv_iadd hx hb dL_isClean_96 ?_
        refine lv_topi (fun v14 ex => ?_)
        replace hf := xl_f hf v14 ex
        clear ex
        refine lv_istore_n (lv' := [(3, .int v14), (0, .ref (E.a 52)), (1, .int a1), (2, .int a2), (4, .int a4), (6, .int a6), (7, .int a7)]) hx hb dL_isClean_97 rfl hl (by decide) rfl (fun ls hl => ?_)
        refine lv_iload hx hb dL_isClean_98 (lv_at hl 4 rfl) ?_
        refine lv_iconst (v := 1) hx hb dL_isClean_100 (by decide) ?_
        refine lv_iload hx hb dL_isClean_101 (lv_at hl 6 rfl) ?_
        refine lv_ishl hx hb dL_isClean_103 ?_
        refine lv_ior hx hb dL_isClean_104 ?_
        refine lv_topi (fun v15 ex => ?_)
        replace hf := xl_f hf v15 ex
        clear ex
        refine lv_istore (lv' := [(4, .int v15), (3, .int v14), (0, .ref (E.a 52)), (1, .int a1), (2, .int a2), (6, .int a6), (7, .int a7)]) hx hb dL_isClean_105 hl (by decide) rfl (fun ls hl => ?_)
        refine lv_iload hx hb dL_isClean_107 (lv_at hl 6 rfl) ?_
        refine lv_istore (lv' := [(5, .int a7), (4, .int v15), (3, .int v14), (0, .ref (E.a 52)), (1, .int a1), (2, .int a2), (6, .int a6), (7, .int a7)]) hx hb dL_isClean_109 hl (by decide) rfl (fun ls hl => ?_)
        obtain ⟨v16, ex⟩ : ∃ y : Int32, y = (a6 + 1) := ⟨_, rfl⟩
        replace hf := xl_f hf v16 ex
        refine lv_iinc (v := v16) (lv' := [(6, .int v16), (5, .int a7), (4, .int v15), (3, .int v14), (0, .ref (E.a 52)), (1, .int a1), (2, .int a2), (7, .int a7)]) hx hb dL_isClean_111 hl (k := 6) rfl (by rw [ex]; rfl) (by decide) rfl (fun ls hl => ?_)
        clear ex
        refine lv_goto (tgt := 38) hx hb dL_isClean_114 (by decide) ?_
        exact ih38 a1 a2 v14 v15 a7 v16 σ _ _ _ nc ns hw (lv_sub hl [4, 5, 6, 3, 2, 1, 0] rfl) hf (by omega) (by omega)
      intro a1 a2 a3 a4 a5 a6 σ H locs ls nc ns hw hl hf hnc hns
      rw [fL_isClean_c38_s] at hf
      refine lv_iload hx hb dL_isClean_38 (lv_at hl 4 rfl) ?_
      refine lv_iload_n hx hb dL_isClean_40 rfl (lv_at hl 1 rfl) ?_
      refine lv_icmp_eq (tgt := 117) hx hb dL_isClean_41 (by decide) (fun c41 => ?_) (fun c41 => ?_)
      · replace hf := xif_pos c41 hf
        refine lv_iload_n hx hb dL_isClean_117 rfl (lv_at hl 3 rfl) ?_
        refine lv_iload_n hx hb dL_isClean_118 rfl (lv_at hl 2 rfl) ?_
        refine lv_icmp_ne (tgt := 147) hx hb dL_isClean_119 (by decide) (fun c119 => ?_) (fun c119 => ?_)
        · replace hf := xif_neg c119 hf
          refine lv_iconst (v := 0) hx hb dL_isClean_147 (by decide) ?_
          exact x_Lzretc hx hb hr hlk hw (by decide) hf (show nc ≤ 14 by omega) (show ns ≤ 84 by omega) dL_isClean_148
        · replace hf := xif_pos c119 hf
          refine lv_iload_n hx hb dL_isClean_122 rfl (lv_at hl 2 rfl) ?_
          refine lv_aload_n hx hb dL_isClean_123 rfl (lv_at hl 0 rfl) ?_
          refine lv_iload_n hx hb dL_isClean_124 rfl (lv_at hl 1 rfl) ?_
          refine lv_iconst (v := (-1)) hx hb dL_isClean_125 (by decide) ?_
          obtain ⟨r6, σ7, hcl, hf⟩ := xc2_f hf
          refine x_callLi (va_runV (As := [.int a1, .int (-1)]) (rest := [.int a2]) ⟨hx, hb, hml, hown, hts⟩ (mL_cheapest hl0 hE 6 a1 (-1) σ r6 σ7 hcl H.size) (cwV 2 hts gL_isClean_L_cheapest rfl rfl rfl (by decide +kernel) ⟨Nat.le_of_ble_eq_true rfl, Nat.le_of_ble_eq_true rfl⟩) (x_preLV _ hw hA hGL (cL52 hE) rfl) rfl rfl hl.1 rfl (lv_room (Nat.le_of_ble_eq_true rfl)) dL_isClean_126 ⟨show nc + 0 ≤ 14 by omega, show ns + 0 ≤ 84 by omega⟩) hw hA (fun H locs hw => ?_)
          clear hcl
          refine lv_icmp_ne (tgt := 147) hx hb dL_isClean_129 (by decide) (fun c129 => ?_) (fun c129 => ?_)
          · replace hf := xif_neg c129 hf
            refine lv_iconst (v := 0) hx hb dL_isClean_147 (by decide) ?_
            exact x_Lzretc hx hb hr hlk hw (by decide) hf (show (nc + 0) ≤ 14 by omega) (show (ns + 0) ≤ 84 by omega) dL_isClean_148
          · replace hf := xif_pos c129 hf
            refine lv_aload_n hx hb dL_isClean_132 rfl (lv_at hl 0 rfl) ?_
            refine x_getr hx hb hw (cL52 hE) (own := RL) (ref := RL) (C := RL) (T := TL) (N := 10) hts hiL hown rfl 0 (by decide) hk10 (fun _ h9 => h9) rfl dL_isClean_133 ?_
            refine lv_iconst (v := 0) hx hb dL_isClean_136 (by decide) ?_
            obtain ⟨r8, σ9, hcl, hf⟩ := xco_g hf
            refine x_tcallo (vx_runV (As := [.int 0]) (rest := []) ⟨hx, hb, hml, hown, hts⟩ (mX11_cleaning hl0 (E := xCut E σ7) rfl 0 σ7 (.inl r8) σ9 hcl H.size) (cwV 1 hts gL_isClean_X11_cleaning rfl rfl rfl (by decide +kernel) ⟨Nat.le_of_ble_eq_true rfl, Nat.le_of_ble_eq_true rfl⟩) (x_preV _ (xw_cut hE hw) hA hG (cX0 (E := xCut E σ7) rfl) rfl) rfl rfl hl.1 rfl (lv_room (Nat.le_of_ble_eq_true rfl)) dL_isClean_137 ⟨show (nc + 0) + 1 ≤ 14 by omega, show (ns + 0) + 6 ≤ 84 by omega⟩) (xw_cut hE hw) hA (fun H locs hw => ?_)
            obtain ⟨σ9, eρ, hw⟩ := xw_unc2 hE hw
            replace hf := hf σ9 eρ
            clear eρ hcl
            refine lv_if_ne (tgt := 147) hx hb dL_isClean_140 (by decide) (fun c140 => ?_) (fun c140 => ?_)
            · replace hf := xif_neg c140 hf
              refine lv_iconst (v := 0) hx hb dL_isClean_147 (by decide) ?_
              exact x_Lzretc hx hb hr hlk hw (by decide) hf (show ((nc + 0) + 1) ≤ 14 by omega) (show ((ns + 0) + 6) ≤ 84 by omega) dL_isClean_148
            · replace hf := xif_pos c140 hf
              refine lv_iconst (v := 1) hx hb dL_isClean_143 (by decide) ?_
              refine lv_goto (tgt := 148) hx hb dL_isClean_144 (by decide) ?_
              exact x_Lzretc hx hb hr hlk hw (by decide) hf (show ((nc + 0) + 1) ≤ 14 by omega) (show ((ns + 0) + 6) ≤ 84 by omega) dL_isClean_148
      · replace hf := xif_neg c41 hf
        refine lv_aload_n hx hb dL_isClean_44 rfl (lv_at hl 0 rfl) ?_
        refine x_getr hx hb hw (cL52 hE) (own := RL) (ref := RL) (C := RL) (T := TL) (N := 10) hts hiL hown rfl 0 (by decide) hk10 (fun _ h9 => h9) rfl dL_isClean_45 ?_
        refine lv_iload_n hx hb dL_isClean_48 rfl (lv_at hl 1 rfl) ?_
        refine lv_iload hx hb dL_isClean_49 (lv_at hl 6 rfl) ?_
        obtain ⟨r10, σ9, hcl, hf⟩ := xco_g hf
        refine x_tcallo (vx_runV (As := [.int a1, .int a6]) (rest := []) ⟨hx, hb, hml, hown, hts⟩ (mX11_rowAt hl0 (E := xCut E σ) rfl a1 a6 σ (.inl r10) σ9 hcl H.size) (cwV 2 hts gL_isClean_X11_rowAt rfl rfl rfl (by decide +kernel) ⟨Nat.le_of_ble_eq_true rfl, Nat.le_of_ble_eq_true rfl⟩) (x_preV _ (xw_cut hE hw) hA hG (cX0 (E := xCut E σ) rfl) rfl) rfl rfl hl.1 rfl (lv_room (Nat.le_of_ble_eq_true rfl)) dL_isClean_51 ⟨show nc + 2 ≤ 14 by omega, show ns + 12 ≤ 84 by omega⟩) (xw_cut hE hw) hA (fun H locs hw => ?_)
        obtain ⟨σ11, eρ, hw⟩ := xw_unc2 hE hw
        replace hf := hf σ11 eρ
        clear eρ hcl
        refine lv_istore (lv' := [(7, .int r10), (0, .ref (E.a 52)), (1, .int a1), (2, .int a2), (3, .int a3), (4, .int a4), (5, .int a5), (6, .int a6)]) hx hb dL_isClean_54 hl (by decide) rfl (fun ls hl => ?_)
        refine lv_iload_n hx hb dL_isClean_56 rfl (lv_at hl 2 rfl) ?_
        refine lv_iload hx hb dL_isClean_57 (lv_at hl 0 rfl) ?_
        refine lv_ishr hx hb dL_isClean_59 ?_
        refine lv_iconst (v := 1) hx hb dL_isClean_60 (by decide) ?_
        refine lv_iand hx hb dL_isClean_61 ?_
        refine lv_if_eq (tgt := 76) hx hb dL_isClean_62 (by decide) (fun c62 => ?_) (fun c62 => ?_)
        · replace hf := xif_pos c62 hf
          refine lv_iconst (v := 0) hx hb dL_isClean_76 (by decide) ?_
          exact x_Lzretc hx hb hr hlk hw (by decide) hf (show (nc + 2) ≤ 14 by omega) (show (ns + 12) ≤ 84 by omega) dL_isClean_77
        · replace hf := xif_neg c62 hf
          refine lv_iload hx hb dL_isClean_65 (lv_at hl 5 rfl) ?_
          refine lv_iload hx hb dL_isClean_67 (lv_at hl 0 rfl) ?_
          refine lv_ishr hx hb dL_isClean_69 ?_
          refine lv_iconst (v := 1) hx hb dL_isClean_70 (by decide) ?_
          refine lv_iand hx hb dL_isClean_71 ?_
          refine lv_iconst (v := 1) hx hb dL_isClean_72 (by decide) ?_
          refine lv_icmp_ne (tgt := 78) hx hb dL_isClean_73 (by decide) (fun c73 => ?_) (fun c73 => ?_)
          · replace hf := xif_neg c73 hf
            refine lv_iload_n hx hb dL_isClean_78 rfl (lv_at hl 4 rfl) ?_
            refine lv_iload hx hb dL_isClean_79 (lv_at hl 6 rfl) ?_
            refine lv_if_ge (tgt := 88) hx hb dL_isClean_81 (by decide) (fun c81 => ?_) (fun c81 => ?_)
            · replace hf := xif_pos c81 hf
              refine lv_aload_n hx hb dL_isClean_88 rfl (lv_at hl 1 rfl) ?_
              refine lv_iload hx hb dL_isClean_89 (lv_at hl 6 rfl) ?_
              refine lv_iload hx hb dL_isClean_91 (lv_at hl 0 rfl) ?_
              obtain ⟨r12, σ13, hcl, hf⟩ := xc2_f hf
              refine x_callLi (va_runV (As := [.int a5, .int r10]) (rest := [.int a3]) ⟨hx, hb, hml, hown, hts⟩ (mL_price hl0 hE a5 r10 σ11 r12 σ13 hcl H.size) (cwV 2 hts gL_isClean_L_price rfl rfl rfl (by decide +kernel) ⟨Nat.le_of_ble_eq_true rfl, Nat.le_of_ble_eq_true rfl⟩) (x_preLV _ hw hA hGL (cL52 hE) rfl) rfl rfl hl.1 rfl (lv_room (Nat.le_of_ble_eq_true rfl)) dL_isClean_93 ⟨show (nc + 2) + 0 ≤ 14 by omega, show (ns + 12) + 0 ≤ 84 by omega⟩) hw hA (fun H locs hw => ?_)
              clear hcl
              exact h96 a1 a2 a4 a6 r10 r12 a3 σ13 _ _ _ ((nc + 2) + 0) ((ns + 12) + 0) hw (lv_sub hl [1, 2, 3, 5, 7, 0] rfl) hf (by omega) (by omega)
            · replace hf := xif_neg c81 hf
              refine lv_iconst (v := 0) hx hb dL_isClean_84 (by decide) ?_
              refine lv_goto (tgt := 96) hx hb dL_isClean_85 (by decide) ?_
              exact h96 a1 a2 a4 a6 r10 0 a3 σ11 _ _ _ (nc + 2) (ns + 12) hw (lv_sub hl [1, 2, 3, 5, 7, 0] rfl) hf (by omega) (by omega)
          · replace hf := xif_pos c73 hf
            refine lv_iconst (v := 0) hx hb dL_isClean_76 (by decide) ?_
            exact x_Lzretc hx hb hr hlk hw (by decide) hf (show (nc + 2) ≤ 14 by omega) (show (ns + 12) ≤ 84 by omega) dL_isClean_77
  refine lv_iconst (v := 1) hx hb dL_isClean_0 (by decide) ?_
  refine lv_aload_n hx hb dL_isClean_1 rfl (lv_at hl 0 rfl) ?_
  refine x_getr hx hb hw (cL52 hE) (own := RL) (ref := RL) (C := RL) (T := TL) (N := 10) hts hiL hown rfl 1 (by decide) hk34 (fun _ h9 => h9) rfl dL_isClean_2 ?_
  refine lv_iconst (v := 1) hx hb dL_isClean_5 (by decide) ?_
  refine lv_aload_n hx hb dL_isClean_6 rfl (lv_at hl 0 rfl) ?_
  refine x_geti hx hb hw (cL52 hE) (own := RL) (ref := RL) (C := RL) (T := TL) (N := 10) hts hiL hown rfl 2 (by decide) hk62 (fun _ h9 => h9) rfl dL_isClean_7 ?_
  refine lv_ishl hx hb dL_isClean_10 ?_
  refine lv_iconst (v := 1) hx hb dL_isClean_11 (by decide) ?_
  refine lv_isub hx hb dL_isClean_12 ?_
  obtain ⟨r1, σ2, hcl, hf⟩ := xc2_f hf
  refine x_callLi (va_runV (As := [.int (((1 : Int32) <<< ((σ 52 2) &&& 31)) - 1)]) (rest := [.int 1]) ⟨hx, hb, hml, hown, hts⟩ (mX12_next hl0 hE (((1 : Int32) <<< ((σ 52 2) &&& 31)) - 1) σ r1 σ2 hcl s.heap.size) (cwV 1 hts gL_isClean_X12_next rfl rfl rfl (by decide +kernel) ⟨Nat.le_of_ble_eq_true rfl, Nat.le_of_ble_eq_true rfl⟩) (x_preLV _ hw hA hGL (cL53 hE) rfl) rfl rfl hl.1 rfl (lv_room (Nat.le_of_ble_eq_true rfl)) dL_isClean_13 ⟨show 0 + 0 ≤ 14 by omega, show 0 + 0 ≤ 84 by omega⟩) hw hA (fun H locs hw => ?_)
  clear hcl
  refine lv_iadd hx hb dL_isClean_16 ?_
  refine lv_topi (fun v3 ex => ?_)
  replace hf := xl_f hf v3 ex
  clear ex
  refine lv_istore_n (lv' := [(1, .int v3), (0, .ref (E.a 52))]) hx hb dL_isClean_17 rfl hl (by decide) rfl (fun ls hl => ?_)
  refine lv_aload_n hx hb dL_isClean_18 rfl (lv_at hl 1 rfl) ?_
  refine x_getr hx hb hw (cL52 hE) (own := RL) (ref := RL) (C := RL) (T := TL) (N := 10) hts hiL hown rfl 0 (by decide) hk10 (fun _ h9 => h9) rfl dL_isClean_19 ?_
  refine lv_iload_n hx hb dL_isClean_22 rfl (lv_at hl 0 rfl) ?_
  obtain ⟨r4, σ9, hcl, hf⟩ := xco_g hf
  refine x_tcallo (vx_runV (As := [.int v3]) (rest := []) ⟨hx, hb, hml, hown, hts⟩ (mX11_cleaning hl0 (E := xCut E σ2) rfl v3 σ2 (.inl r4) σ9 hcl H.size) (cwV 1 hts gL_isClean_X11_cleaning rfl rfl rfl (by decide +kernel) ⟨Nat.le_of_ble_eq_true rfl, Nat.le_of_ble_eq_true rfl⟩) (x_preV _ (xw_cut hE hw) hA hG (cX0 (E := xCut E σ2) rfl) rfl) rfl rfl hl.1 rfl (lv_room (Nat.le_of_ble_eq_true rfl)) dL_isClean_23 ⟨show (0 + 0) + 1 ≤ 14 by omega, show (0 + 0) + 6 ≤ 84 by omega⟩) (xw_cut hE hw) hA (fun H locs hw => ?_)
  obtain ⟨σ5, eρ, hw⟩ := xw_unc2 hE hw
  replace hf := hf σ5 eρ
  clear eρ hcl
  refine lv_istore_n (lv' := [(2, .int r4), (1, .int v3), (0, .ref (E.a 52))]) hx hb dL_isClean_26 rfl hl (by decide) rfl (fun ls hl => ?_)
  refine lv_iconst (v := 0) hx hb dL_isClean_27 (by decide) ?_
  refine lv_istore_n (lv' := [(3, .int 0), (2, .int r4), (1, .int v3), (0, .ref (E.a 52))]) hx hb dL_isClean_28 rfl hl (by decide) rfl (fun ls hl => ?_)
  refine lv_iconst (v := 0) hx hb dL_isClean_29 (by decide) ?_
  refine lv_istore (lv' := [(4, .int 0), (3, .int 0), (2, .int r4), (1, .int v3), (0, .ref (E.a 52))]) hx hb dL_isClean_30 hl (by decide) rfl (fun ls hl => ?_)
  refine lv_iconst (v := (-1)) hx hb dL_isClean_32 (by decide) ?_
  refine lv_istore (lv' := [(5, .int (-1)), (4, .int 0), (3, .int 0), (2, .int r4), (1, .int v3), (0, .ref (E.a 52))]) hx hb dL_isClean_33 hl (by decide) rfl (fun ls hl => ?_)
  refine lv_iconst (v := 0) hx hb dL_isClean_35 (by decide) ?_
  refine lv_istore (lv' := [(6, .int 0), (5, .int (-1)), (4, .int 0), (3, .int 0), (2, .int r4), (1, .int v3), (0, .ref (E.a 52))]) hx hb dL_isClean_36 hl (by decide) rfl (fun ls hl => ?_)
  exact h38 6 v3 r4 0 0 (-1) 0 σ5 _ _ _ ((0 + 0) + 1) ((0 + 0) + 6) hw (lv_sub hl [6, 5, 4, 3, 2, 1, 0] rfl) hf (by omega) (by omega)

def fL_isDriven_c229 : Nat → Int32 → Int32 → Int32 → Int32 → Int32 → xSt → Option (Int32 × xSt)
  | 0 => fun _ _ _ _ _ _ => none
  | n + 1 => fun a1 a2 a4 a6 a7 σ => (if a1 ≤ a7 then (if a6 = a4 then some (1, σ) else some (0, σ)) else (xco (fX11_shopOf a2 a7 σ) σ fun r33 σ34 => (xl ((10 * a6) + r33) fun v35 => (xl (a7 + 1) fun v36 => fL_isDriven_c229 n a1 a2 a4 v35 v36 σ34))))
theorem fL_isDriven_c229_s (n : Nat) (a1 : Int32) (a2 : Int32) (a4 : Int32) (a6 : Int32) (a7 : Int32) (σ : xSt) : fL_isDriven_c229 (n + 1) a1 a2 a4 a6 a7 σ = ((if a1 ≤ a7 then (if a6 = a4 then some (1, σ) else some (0, σ)) else (xco (fX11_shopOf a2 a7 σ) σ fun r33 σ34 => (xl ((10 * a6) + r33) fun v35 => (xl (a7 + 1) fun v36 => fL_isDriven_c229 n a1 a2 a4 v35 v36 σ34)))) : Option (Int32 × xSt)) := rfl
def fL_isDriven_c134 : Nat → Int32 → Int32 → Int32 → Int32 → Int32 → Int32 → xSt → Option (Int32 × xSt)
  | 0 => fun _ _ _ _ _ _ _ => none
  | n + 1 => fun a1 a2 a3 a4 a5 a6 σ => (if a5 ≤ a6 then (if a3 = 2147483647 then (xc2 (fL_hasNoWay a2 σ) fun r23 σ24 => xb r23 (some (r23, σ24))) else (xco (fX11_comesBack a2 σ) σ fun r21 σ22 => (if r21 = a3 then fL_isDriven_c229 6 a1 a2 a4 0 0 σ22 else some (0, σ22)))) else (xc2 (fL_isRow a6 a1 σ) fun r25 σ26 => (if r25 = 0 then (xl (a6 + 1) fun v32 => fL_isDriven_c134 n a1 a2 a3 a4 a5 v32 σ26) else (xco (fX11_wayBack a2 a6 σ26) σ26 fun r27 σ28 => (if r27 = (-1) then (xl (a6 + 1) fun v29 => fL_isDriven_c134 n a1 a2 a3 a4 a5 v29 σ28) else (if r27 < a3 then (xl (a6 + 1) fun v30 => fL_isDriven_c134 n a1 a2 r27 a6 a5 v30 σ28) else (xl (a6 + 1) fun v31 => fL_isDriven_c134 n a1 a2 a3 a4 a5 v31 σ28)))))))
theorem fL_isDriven_c134_s (n : Nat) (a1 : Int32) (a2 : Int32) (a3 : Int32) (a4 : Int32) (a5 : Int32) (a6 : Int32) (σ : xSt) : fL_isDriven_c134 (n + 1) a1 a2 a3 a4 a5 a6 σ = ((if a5 ≤ a6 then (if a3 = 2147483647 then (xc2 (fL_hasNoWay a2 σ) fun r23 σ24 => xb r23 (some (r23, σ24))) else (xco (fX11_comesBack a2 σ) σ fun r21 σ22 => (if r21 = a3 then fL_isDriven_c229 6 a1 a2 a4 0 0 σ22 else some (0, σ22)))) else (xc2 (fL_isRow a6 a1 σ) fun r25 σ26 => (if r25 = 0 then (xl (a6 + 1) fun v32 => fL_isDriven_c134 n a1 a2 a3 a4 a5 v32 σ26) else (xco (fX11_wayBack a2 a6 σ26) σ26 fun r27 σ28 => (if r27 = (-1) then (xl (a6 + 1) fun v29 => fL_isDriven_c134 n a1 a2 a3 a4 a5 v29 σ28) else (if r27 < a3 then (xl (a6 + 1) fun v30 => fL_isDriven_c134 n a1 a2 r27 a6 a5 v30 σ28) else (xl (a6 + 1) fun v31 => fL_isDriven_c134 n a1 a2 a3 a4 a5 v31 σ28))))))) : Option (Int32 × xSt)) := rfl
def fL_isDriven_c112 : Nat → Int32 → Int32 → Int32 → Int32 → Int32 → Int32 → xSt → Option (Int32 × xSt)
  | 0 => fun _ _ _ _ _ _ _ => none
  | n + 1 => fun a1 a2 a3 a4 a5 a6 σ => (if a1 ≤ a6 then fL_isDriven_c134 10002 a1 a2 a3 a4 a5 0 σ else (xl (a5 * 10) fun v19 => (xl (a6 + 1) fun v20 => fL_isDriven_c112 n a1 a2 a3 a4 v19 v20 σ)))
theorem fL_isDriven_c112_s (n : Nat) (a1 : Int32) (a2 : Int32) (a3 : Int32) (a4 : Int32) (a5 : Int32) (a6 : Int32) (σ : xSt) : fL_isDriven_c112 (n + 1) a1 a2 a3 a4 a5 a6 σ = ((if a1 ≤ a6 then fL_isDriven_c134 10002 a1 a2 a3 a4 a5 0 σ else (xl (a5 * 10) fun v19 => (xl (a6 + 1) fun v20 => fL_isDriven_c112 n a1 a2 a3 a4 v19 v20 σ))) : Option (Int32 × xSt)) := rfl
def fL_isDriven_c13 : Nat → Int32 → Int32 → xSt → Option (Int32 × xSt)
  | 0 => fun _ _ _ => none
  | n + 1 => fun a1 a2 σ => (if a1 ≤ a2 then (xc2 (fX12_next 40 σ) fun r4 σ5 => fL_isDriven_c112 xFU a1 r4 2147483647 0 1 0 σ5) else (xc2 (fX12_next 80 σ) fun r6 σ7 => (xc2 (fX12_next 21 σ7) fun r8 σ9 => (xc2 (fX12_next 21 σ9) fun r10 σ11 => (xc2 (fX12_next 120 σ11) fun r12 σ13 => (xc2 (fX12_next 10 σ13) fun r14 σ15 => (xco (fX11_addShop r8 r10 r6 ((r6 + 20) + r12) r14 σ15) σ15 fun r16 σ17 => (if r16 = a2 then (xl (a2 + 1) fun v18 => fL_isDriven_c13 n a1 v18 σ17) else some (0, σ17)))))))))
theorem fL_isDriven_c13_s (n : Nat) (a1 : Int32) (a2 : Int32) (σ : xSt) : fL_isDriven_c13 (n + 1) a1 a2 σ = ((if a1 ≤ a2 then (xc2 (fX12_next 40 σ) fun r4 σ5 => fL_isDriven_c112 xFU a1 r4 2147483647 0 1 0 σ5) else (xc2 (fX12_next 80 σ) fun r6 σ7 => (xc2 (fX12_next 21 σ7) fun r8 σ9 => (xc2 (fX12_next 21 σ9) fun r10 σ11 => (xc2 (fX12_next 120 σ11) fun r12 σ13 => (xc2 (fX12_next 10 σ13) fun r14 σ15 => (xco (fX11_addShop r8 r10 r6 ((r6 + 20) + r12) r14 σ15) σ15 fun r16 σ17 => (if r16 = a2 then (xl (a2 + 1) fun v18 => fL_isDriven_c13 n a1 v18 σ17) else some (0, σ17))))))))) : Option (Int32 × xSt)) := rfl
def fL_isDriven (σ : xSt) : Option (Int32 × xSt) := (xc2 (fX12_next 4 σ) fun r1 σ2 => (xl (1 + r1) fun v3 => fL_isDriven_c13 6 v3 0 σ2))
abbrev rmL_isDriven : Room := { frames := 17, cells := 10034, slots := 60204, locals := 468 }
set_option maxRecDepth 100000 in
set_option maxHeartbeats 8000000 in
theorem mL_isDriven {l : Launch} (hl0 : l.stackTraces = false) {E : xE} (hE : xLE E) (σ : xSt) (o1 : Int32) (o2 : xSt) (hf : fL_isDriven σ = some (o1, o2)) : xLi l yL_isDriven wsL_isDriven rmL_isDriven E [.ref (E.a 52)] σ o1 o2 10034 60204 := by
  unfold fL_isDriven at hf
  refine xLi_of (cc := cL_isDriven) (maxL := 8) (ret := (some .boolean)) (by decide) rfl (Nat.le_of_ble_eq_true rfl) ?_
  intro p e s m args below meth c A ls ⟨hx, hb, hr, hml, hown, hts, hlk⟩ hA hGL hw hl
  have hG := hGL.1
  have hown : s.vm.findClass RL = some m.cls := hown
  have hl : lv_has ls 8 [(0, .ref (E.a 52))] := hl
  have hk34 := hts (.fieldLink RL 34 "OvenRoundLaw" "d" "LOvenRoundLaw$Draws;") (by decide +kernel)
  have hiL : ∀ w ∈ wsL0, w ∈ wsL_isDriven := by decide +kernel
  have hk10 := hts (.fieldLink RL 10 "OvenRoundLaw" "o" "LOvenRound;") (by decide +kernel)
  have h229 : ∀ (n : Nat) (a1 : Int32) (a2 : Int32) (a4 : Int32) (a6 : Int32) (a7 : Int32) (σ : xSt) (H : Heap) (locs : List Loc) (ls : Array Slot) (nc ns : Nat), xw E A s.heap s σ H locs → lv_has ls 8 [(0, .ref (E.a 52)), (1, .int a1), (2, .int a2), (4, .int a4), (6, .int a6), (7, .int a7)] → fL_isDriven_c229 n a1 a2 a4 a6 a7 σ = some (o1, o2) → nc + (0 + 3 * n) ≤ 10034 → ns + (0 + 18 * n) ≤ 60204 → W p l e rmL_isDriven s m args below meth c H locs nc ns (MQ below (xQi E A o1 o2) args s 10034 60204 A) (F0 m 229 ls []) := by
    intro n229
    induction n229 with
    | zero => intro a1 a2 a4 a6 a7 σ H locs ls nc ns hw hl hf hnc hns; exact nomatch hf
    | succ n229 ih229 =>
      intro a1 a2 a4 a6 a7 σ H locs ls nc ns hw hl hf hnc hns
      rw [fL_isDriven_c229_s] at hf
      refine lv_iload hx hb dL_isDriven_229 (lv_at hl 5 rfl) ?_
      refine lv_iload_n hx hb dL_isDriven_231 rfl (lv_at hl 1 rfl) ?_
      refine lv_icmp_ge (tgt := 259) hx hb dL_isDriven_232 (by decide) (fun c232 => ?_) (fun c232 => ?_)
      · replace hf := xif_pos c232 hf
        refine lv_iload hx hb dL_isDriven_259 (lv_at hl 4 rfl) ?_
        refine lv_iload hx hb dL_isDriven_261 (lv_at hl 3 rfl) ?_
        refine lv_icmp_ne (tgt := 270) hx hb dL_isDriven_263 (by decide) (fun c263 => ?_) (fun c263 => ?_)
        · replace hf := xif_neg c263 hf
          refine lv_iconst (v := 0) hx hb dL_isDriven_270 (by decide) ?_
          exact x_Lzretc hx hb hr hlk hw (by decide) hf (show nc ≤ 10034 by omega) (show ns ≤ 60204 by omega) dL_isDriven_271
        · replace hf := xif_pos c263 hf
          refine lv_iconst (v := 1) hx hb dL_isDriven_266 (by decide) ?_
          refine lv_goto (tgt := 271) hx hb dL_isDriven_267 (by decide) ?_
          exact x_Lzretc hx hb hr hlk hw (by decide) hf (show nc ≤ 10034 by omega) (show ns ≤ 60204 by omega) dL_isDriven_271
      · replace hf := xif_neg c232 hf
        refine lv_bipush (v := 10) hx hb dL_isDriven_235 (by decide) ?_
        refine lv_iload hx hb dL_isDriven_237 (lv_at hl 4 rfl) ?_
        refine lv_imul hx hb dL_isDriven_239 ?_
        refine lv_aload_n hx hb dL_isDriven_240 rfl (lv_at hl 0 rfl) ?_
        refine x_getr hx hb hw (cL52 hE) (own := RL) (ref := RL) (C := RL) (T := TL) (N := 10) hts hiL hown rfl 0 (by decide) hk10 (fun _ h9 => h9) rfl dL_isDriven_241 ?_
        refine lv_iload_n hx hb dL_isDriven_244 rfl (lv_at hl 2 rfl) ?_
        refine lv_iload hx hb dL_isDriven_245 (lv_at hl 5 rfl) ?_
        obtain ⟨r33, σ9, hcl, hf⟩ := xco_g hf
        refine x_tcallo (vx_runV (As := [.int a2, .int a7]) (rest := [.int (10 * a6)]) ⟨hx, hb, hml, hown, hts⟩ (mX11_shopOf hl0 (E := xCut E σ) rfl a2 a7 σ (.inl r33) σ9 hcl H.size) (cwV 2 hts gL_isDriven_X11_shopOf rfl rfl rfl (by decide +kernel) ⟨Nat.le_of_ble_eq_true rfl, Nat.le_of_ble_eq_true rfl⟩) (x_preV _ (xw_cut hE hw) hA hG (cX0 (E := xCut E σ) rfl) rfl) rfl rfl hl.1 rfl (lv_room (Nat.le_of_ble_eq_true rfl)) dL_isDriven_247 ⟨show nc + 3 ≤ 10034 by omega, show ns + 18 ≤ 60204 by omega⟩) (xw_cut hE hw) hA (fun H locs hw => ?_)
        obtain ⟨σ34, eρ, hw⟩ := xw_unc2 hE hw
        replace hf := hf σ34 eρ
        clear eρ hcl
        refine lv_iadd hx hb dL_isDriven_250 ?_
        refine lv_topi (fun v35 ex => ?_)
        replace hf := xl_f hf v35 ex
        clear ex
        refine lv_istore (lv' := [(6, .int v35), (0, .ref (E.a 52)), (1, .int a1), (2, .int a2), (4, .int a4), (7, .int a7)]) hx hb dL_isDriven_251 hl (by decide) rfl (fun ls hl => ?_)
        obtain ⟨v36, ex⟩ : ∃ y : Int32, y = (a7 + 1) := ⟨_, rfl⟩
        replace hf := xl_f hf v36 ex
        refine lv_iinc (v := v36) (lv' := [(7, .int v36), (6, .int v35), (0, .ref (E.a 52)), (1, .int a1), (2, .int a2), (4, .int a4)]) hx hb dL_isDriven_253 hl (k := 5) rfl (by rw [ex]; rfl) (by decide) rfl (fun ls hl => ?_)
        clear ex
        refine lv_goto (tgt := 229) hx hb dL_isDriven_256 (by decide) ?_
        exact ih229 a1 a2 a4 v35 v36 σ34 _ _ _ (nc + 3) (ns + 18) hw (lv_sub hl [2, 3, 4, 5, 1, 0] rfl) hf (by omega) (by omega)
  have h134 : ∀ (n : Nat) (a1 : Int32) (a2 : Int32) (a3 : Int32) (a4 : Int32) (a5 : Int32) (a6 : Int32) (σ : xSt) (H : Heap) (locs : List Loc) (ls : Array Slot) (nc ns : Nat), xw E A s.heap s σ H locs → lv_has ls 8 [(0, .ref (E.a 52)), (1, .int a1), (2, .int a2), (3, .int a3), (4, .int a4), (5, .int a5), (6, .int a6)] → fL_isDriven_c134 n a1 a2 a3 a4 a5 a6 σ = some (o1, o2) → nc + (20 + 1 * n) ≤ 10034 → ns + (120 + 6 * n) ≤ 60204 → W p l e rmL_isDriven s m args below meth c H locs nc ns (MQ below (xQi E A o1 o2) args s 10034 60204 A) (F0 m 134 ls []) := by
    intro n134
    induction n134 with
    | zero => intro a1 a2 a3 a4 a5 a6 σ H locs ls nc ns hw hl hf hnc hns; exact nomatch hf
    | succ n134 ih134 =>
      intro a1 a2 a3 a4 a5 a6 σ H locs ls nc ns hw hl hf hnc hns
      rw [fL_isDriven_c134_s] at hf
      refine lv_iload hx hb dL_isDriven_134 (lv_at hl 6 rfl) ?_
      refine lv_iload hx hb dL_isDriven_136 (lv_at hl 5 rfl) ?_
      refine lv_icmp_ge (tgt := 193) hx hb dL_isDriven_138 (by decide) (fun c138 => ?_) (fun c138 => ?_)
      · replace hf := xif_pos c138 hf
        refine lv_iload_n hx hb dL_isDriven_193 rfl (lv_at hl 3 rfl) ?_
        refine lv_ldcw hx hb hown (hts (.constant RL 268 (2147483647)) (by decide +kernel)) dL_isDriven_194 ?_
        refine lv_icmp_ne (tgt := 209) hx hb dL_isDriven_197 (by decide) (fun c197 => ?_) (fun c197 => ?_)
        · replace hf := xif_neg c197 hf
          refine lv_aload_n hx hb dL_isDriven_209 rfl (lv_at hl 0 rfl) ?_
          refine x_getr hx hb hw (cL52 hE) (own := RL) (ref := RL) (C := RL) (T := TL) (N := 10) hts hiL hown rfl 0 (by decide) hk10 (fun _ h9 => h9) rfl dL_isDriven_210 ?_
          refine lv_iload_n hx hb dL_isDriven_213 rfl (lv_at hl 2 rfl) ?_
          obtain ⟨r21, σ9, hcl, hf⟩ := xco_g hf
          refine x_tcallo (vx_runV (As := [.int a2]) (rest := []) ⟨hx, hb, hml, hown, hts⟩ (mX11_comesBack hl0 (E := xCut E σ) rfl a2 σ (.inl r21) σ9 hcl H.size) (cwV 1 hts gL_isDriven_X11_comesBack rfl rfl rfl (by decide +kernel) ⟨Nat.le_of_ble_eq_true rfl, Nat.le_of_ble_eq_true rfl⟩) (x_preV _ (xw_cut hE hw) hA hG (cX0 (E := xCut E σ) rfl) rfl) rfl rfl hl.1 rfl (lv_room (Nat.le_of_ble_eq_true rfl)) dL_isDriven_214 ⟨show nc + 2 ≤ 10034 by omega, show ns + 12 ≤ 60204 by omega⟩) (xw_cut hE hw) hA (fun H locs hw => ?_)
          obtain ⟨σ22, eρ, hw⟩ := xw_unc2 hE hw
          replace hf := hf σ22 eρ
          clear eρ hcl
          refine lv_iload_n hx hb dL_isDriven_217 rfl (lv_at hl 3 rfl) ?_
          refine lv_icmp_eq (tgt := 223) hx hb dL_isDriven_218 (by decide) (fun c218 => ?_) (fun c218 => ?_)
          · replace hf := xif_pos c218 hf
            refine lv_iconst (v := 0) hx hb dL_isDriven_223 (by decide) ?_
            refine lv_istore (lv' := [(6, .int 0), (0, .ref (E.a 52)), (1, .int a1), (2, .int a2), (3, .int a3), (4, .int a4), (5, .int a5)]) hx hb dL_isDriven_224 hl (by decide) rfl (fun ls hl => ?_)
            refine lv_iconst (v := 0) hx hb dL_isDriven_226 (by decide) ?_
            refine lv_istore (lv' := [(7, .int 0), (6, .int 0), (0, .ref (E.a 52)), (1, .int a1), (2, .int a2), (3, .int a3), (4, .int a4), (5, .int a5)]) hx hb dL_isDriven_227 hl (by decide) rfl (fun ls hl => ?_)
            exact h229 6 a1 a2 a4 0 0 σ22 _ _ _ (nc + 2) (ns + 12) hw (lv_sub hl [2, 3, 4, 6, 1, 0] rfl) hf (by omega) (by omega)
          · replace hf := xif_neg c218 hf
            refine lv_iconst (v := 0) hx hb dL_isDriven_221 (by decide) ?_
            exact x_Lzretc hx hb hr hlk hw (by decide) hf (show (nc + 2) ≤ 10034 by omega) (show (ns + 12) ≤ 60204 by omega) dL_isDriven_222
        · replace hf := xif_pos c197 hf
          refine lv_aload_n hx hb dL_isDriven_200 rfl (lv_at hl 0 rfl) ?_
          refine x_getr hx hb hw (cL52 hE) (own := RL) (ref := RL) (C := RL) (T := TL) (N := 10) hts hiL hown rfl 0 (by decide) hk10 (fun _ h9 => h9) rfl dL_isDriven_201 ?_
          refine lv_iload_n hx hb dL_isDriven_204 rfl (lv_at hl 2 rfl) ?_
          obtain ⟨r23, σ24, hcl, hf⟩ := xc2_f hf
          refine x_callLx (vx_runSW (As := [.ref (E.a 0), .int a2]) (rest := []) ⟨hx, hb, hml, hown, hts⟩ (mL_hasNoWay hl0 hE a2 σ r23 σ24 hcl H.size) (vx_cwSW 2 hts gL_isDriven_L_hasNoWay rfl rfl rfl (by decide +kernel) ⟨Nat.le_of_ble_eq_true rfl, Nat.le_of_ble_eq_true rfl⟩) (x_preLS _ hw hA hGL) rfl rfl hl.1 rfl (lv_room (Nat.le_of_ble_eq_true rfl)) dL_isDriven_205 ⟨show nc + 2 ≤ 10034 by omega, show ns + 12 ≤ 60204 by omega⟩) hw hA (fun H locs hw => ?_)
          clear hcl
          exact x_Lzret hx hb hr hlk hw hf (show (nc + 2) ≤ 10034 by omega) (show (ns + 12) ≤ 60204 by omega) dL_isDriven_208
      · replace hf := xif_neg c138 hf
        refine lv_iload hx hb dL_isDriven_141 (lv_at hl 6 rfl) ?_
        refine lv_iload_n hx hb dL_isDriven_143 rfl (lv_at hl 1 rfl) ?_
        obtain ⟨r25, σ26, hcl, hf⟩ := xc2_f hf
        refine x_callLi (va_runS (As := [.int a6, .int a1]) (rest := []) ⟨hx, hb, hml, hown, hts⟩ (mL_isRow hl0 hE a6 a1 σ r25 σ26 hcl H.size) (va_cwS 2 hts gL_isDriven_L_isRow rfl rfl rfl (by decide +kernel) ⟨Nat.le_of_ble_eq_true rfl, Nat.le_of_ble_eq_true rfl⟩) (x_preLS _ hw hA hGL) rfl rfl hl.1 rfl (lv_room (Nat.le_of_ble_eq_true rfl)) dL_isDriven_144 ⟨show nc + 0 ≤ 10034 by omega, show ns + 0 ≤ 60204 by omega⟩) hw hA (fun H locs hw => ?_)
        clear hcl
        refine lv_if_ne (tgt := 153) hx hb dL_isDriven_147 (by decide) (fun c147 => ?_) (fun c147 => ?_)
        · replace hf := xif_neg c147 hf
          refine lv_aload_n hx hb dL_isDriven_153 rfl (lv_at hl 0 rfl) ?_
          refine x_getr hx hb hw (cL52 hE) (own := RL) (ref := RL) (C := RL) (T := TL) (N := 10) hts hiL hown rfl 0 (by decide) hk10 (fun _ h9 => h9) rfl dL_isDriven_154 ?_
          refine lv_iload_n hx hb dL_isDriven_157 rfl (lv_at hl 2 rfl) ?_
          refine lv_iload hx hb dL_isDriven_158 (lv_at hl 6 rfl) ?_
          obtain ⟨r27, σ9, hcl, hf⟩ := xco_g hf
          refine x_tcallo (vx_runV (As := [.int a2, .int a6]) (rest := []) ⟨hx, hb, hml, hown, hts⟩ (mX11_wayBack hl0 (E := xCut E σ26) rfl a2 a6 σ26 (.inl r27) σ9 hcl H.size) (cwV 2 hts gL_isDriven_X11_wayBack rfl rfl rfl (by decide +kernel) ⟨Nat.le_of_ble_eq_true rfl, Nat.le_of_ble_eq_true rfl⟩) (x_preV _ (xw_cut hE hw) hA hG (cX0 (E := xCut E σ26) rfl) rfl) rfl rfl hl.1 rfl (lv_room (Nat.le_of_ble_eq_true rfl)) dL_isDriven_160 ⟨show (nc + 0) + 1 ≤ 10034 by omega, show (ns + 0) + 6 ≤ 60204 by omega⟩) (xw_cut hE hw) hA (fun H locs hw => ?_)
          obtain ⟨σ28, eρ, hw⟩ := xw_unc2 hE hw
          replace hf := hf σ28 eρ
          clear eρ hcl
          refine lv_istore (lv' := [(7, .int r27), (0, .ref (E.a 52)), (1, .int a1), (2, .int a2), (3, .int a3), (4, .int a4), (5, .int a5), (6, .int a6)]) hx hb dL_isDriven_163 hl (by decide) rfl (fun ls hl => ?_)
          refine lv_iload hx hb dL_isDriven_165 (lv_at hl 0 rfl) ?_
          refine lv_iconst (v := (-1)) hx hb dL_isDriven_167 (by decide) ?_
          refine lv_icmp_eq (tgt := 187) hx hb dL_isDriven_168 (by decide) (fun c168 => ?_) (fun c168 => ?_)
          · replace hf := xif_pos c168 hf
            obtain ⟨v29, ex⟩ : ∃ y : Int32, y = (a6 + 1) := ⟨_, rfl⟩
            replace hf := xl_f hf v29 ex
            refine lv_iinc (v := v29) (lv' := [(6, .int v29), (7, .int r27), (0, .ref (E.a 52)), (1, .int a1), (2, .int a2), (3, .int a3), (4, .int a4), (5, .int a5)]) hx hb dL_isDriven_187 hl (k := 7) rfl (by rw [ex]; rfl) (by decide) rfl (fun ls hl => ?_)
            clear ex
            refine lv_goto (tgt := 134) hx hb dL_isDriven_190 (by decide) ?_
            exact ih134 a1 a2 a3 a4 a5 v29 σ28 _ _ _ ((nc + 0) + 1) ((ns + 0) + 6) hw (lv_sub hl [2, 3, 4, 5, 6, 7, 0] rfl) hf (by omega) (by omega)
          · replace hf := xif_neg c168 hf
            refine lv_iload hx hb dL_isDriven_171 (lv_at hl 0 rfl) ?_
            refine lv_iload_n hx hb dL_isDriven_173 rfl (lv_at hl 4 rfl) ?_
            refine lv_icmp_lt (tgt := 180) hx hb dL_isDriven_174 (by decide) (fun c174 => ?_) (fun c174 => ?_)
            · replace hf := xif_pos c174 hf
              refine lv_iload hx hb dL_isDriven_180 (lv_at hl 0 rfl) ?_
              refine lv_istore_n (lv' := [(3, .int r27), (7, .int r27), (0, .ref (E.a 52)), (1, .int a1), (2, .int a2), (4, .int a4), (5, .int a5), (6, .int a6)]) hx hb dL_isDriven_182 rfl hl (by decide) rfl (fun ls hl => ?_)
              refine lv_iload hx hb dL_isDriven_183 (lv_at hl 7 rfl) ?_
              refine lv_istore (lv' := [(4, .int a6), (3, .int r27), (7, .int r27), (0, .ref (E.a 52)), (1, .int a1), (2, .int a2), (5, .int a5), (6, .int a6)]) hx hb dL_isDriven_185 hl (by decide) rfl (fun ls hl => ?_)
              obtain ⟨v30, ex⟩ : ∃ y : Int32, y = (a6 + 1) := ⟨_, rfl⟩
              replace hf := xl_f hf v30 ex
              refine lv_iinc (v := v30) (lv' := [(6, .int v30), (4, .int a6), (3, .int r27), (7, .int r27), (0, .ref (E.a 52)), (1, .int a1), (2, .int a2), (5, .int a5)]) hx hb dL_isDriven_187 hl (k := 7) rfl (by rw [ex]; rfl) (by decide) rfl (fun ls hl => ?_)
              clear ex
              refine lv_goto (tgt := 134) hx hb dL_isDriven_190 (by decide) ?_
              exact ih134 a1 a2 r27 a6 a5 v30 σ28 _ _ _ ((nc + 0) + 1) ((ns + 0) + 6) hw (lv_sub hl [4, 5, 6, 2, 1, 7, 0] rfl) hf (by omega) (by omega)
            · replace hf := xif_neg c174 hf
              refine lv_goto (tgt := 187) hx hb dL_isDriven_177 (by decide) ?_
              obtain ⟨v31, ex⟩ : ∃ y : Int32, y = (a6 + 1) := ⟨_, rfl⟩
              replace hf := xl_f hf v31 ex
              refine lv_iinc (v := v31) (lv' := [(6, .int v31), (7, .int r27), (0, .ref (E.a 52)), (1, .int a1), (2, .int a2), (3, .int a3), (4, .int a4), (5, .int a5)]) hx hb dL_isDriven_187 hl (k := 7) rfl (by rw [ex]; rfl) (by decide) rfl (fun ls hl => ?_)
              clear ex
              refine lv_goto (tgt := 134) hx hb dL_isDriven_190 (by decide) ?_
              exact ih134 a1 a2 a3 a4 a5 v31 σ28 _ _ _ ((nc + 0) + 1) ((ns + 0) + 6) hw (lv_sub hl [2, 3, 4, 5, 6, 7, 0] rfl) hf (by omega) (by omega)
        · replace hf := xif_pos c147 hf
          refine lv_goto (tgt := 187) hx hb dL_isDriven_150 (by decide) ?_
          obtain ⟨v32, ex⟩ : ∃ y : Int32, y = (a6 + 1) := ⟨_, rfl⟩
          replace hf := xl_f hf v32 ex
          refine lv_iinc (v := v32) (lv' := [(6, .int v32), (0, .ref (E.a 52)), (1, .int a1), (2, .int a2), (3, .int a3), (4, .int a4), (5, .int a5)]) hx hb dL_isDriven_187 hl (k := 6) rfl (by rw [ex]; rfl) (by decide) rfl (fun ls hl => ?_)
          clear ex
          refine lv_goto (tgt := 134) hx hb dL_isDriven_190 (by decide) ?_
          exact ih134 a1 a2 a3 a4 a5 v32 σ26 _ _ _ (nc + 0) (ns + 0) hw (lv_sub hl [1, 2, 3, 4, 5, 6, 0] rfl) hf (by omega) (by omega)
  have h112 : ∀ (n : Nat) (a1 : Int32) (a2 : Int32) (a3 : Int32) (a4 : Int32) (a5 : Int32) (a6 : Int32) (σ : xSt) (H : Heap) (locs : List Loc) (ls : Array Slot) (nc ns : Nat), xw E A s.heap s σ H locs → lv_has ls 8 [(0, .ref (E.a 52)), (1, .int a1), (2, .int a2), (3, .int a3), (4, .int a4), (5, .int a5), (6, .int a6)] → fL_isDriven_c112 n a1 a2 a3 a4 a5 a6 σ = some (o1, o2) → nc + (10022) ≤ 10034 → ns + (60132) ≤ 60204 → W p l e rmL_isDriven s m args below meth c H locs nc ns (MQ below (xQi E A o1 o2) args s 10034 60204 A) (F0 m 112 ls []) := by
    intro n112
    induction n112 with
    | zero => intro a1 a2 a3 a4 a5 a6 σ H locs ls nc ns hw hl hf hnc hns; exact nomatch hf
    | succ n112 ih112 =>
      intro a1 a2 a3 a4 a5 a6 σ H locs ls nc ns hw hl hf hnc hns
      rw [fL_isDriven_c112_s] at hf
      refine lv_iload hx hb dL_isDriven_112 (lv_at hl 6 rfl) ?_
      refine lv_iload_n hx hb dL_isDriven_114 rfl (lv_at hl 1 rfl) ?_
      refine lv_icmp_ge (tgt := 131) hx hb dL_isDriven_115 (by decide) (fun c115 => ?_) (fun c115 => ?_)
      · replace hf := xif_pos c115 hf
        refine lv_iconst (v := 0) hx hb dL_isDriven_131 (by decide) ?_
        refine lv_istore (lv' := [(6, .int 0), (0, .ref (E.a 52)), (1, .int a1), (2, .int a2), (3, .int a3), (4, .int a4), (5, .int a5)]) hx hb dL_isDriven_132 hl (by decide) rfl (fun ls hl => ?_)
        exact h134 10002 a1 a2 a3 a4 a5 0 σ _ _ _ nc ns hw (lv_sub hl [1, 2, 3, 4, 5, 6, 0] rfl) hf (by omega) (by omega)
      · replace hf := xif_neg c115 hf
        refine lv_iload hx hb dL_isDriven_118 (lv_at hl 5 rfl) ?_
        refine lv_bipush (v := 10) hx hb dL_isDriven_120 (by decide) ?_
        refine lv_imul hx hb dL_isDriven_122 ?_
        refine lv_topi (fun v19 ex => ?_)
        replace hf := xl_f hf v19 ex
        clear ex
        refine lv_istore (lv' := [(5, .int v19), (0, .ref (E.a 52)), (1, .int a1), (2, .int a2), (3, .int a3), (4, .int a4), (6, .int a6)]) hx hb dL_isDriven_123 hl (by decide) rfl (fun ls hl => ?_)
        obtain ⟨v20, ex⟩ : ∃ y : Int32, y = (a6 + 1) := ⟨_, rfl⟩
        replace hf := xl_f hf v20 ex
        refine lv_iinc (v := v20) (lv' := [(6, .int v20), (5, .int v19), (0, .ref (E.a 52)), (1, .int a1), (2, .int a2), (3, .int a3), (4, .int a4)]) hx hb dL_isDriven_125 hl (k := 6) rfl (by rw [ex]; rfl) (by decide) rfl (fun ls hl => ?_)
        clear ex
        refine lv_goto (tgt := 112) hx hb dL_isDriven_128 (by decide) ?_
        exact ih112 a1 a2 a3 a4 v19 v20 σ _ _ _ nc ns hw (lv_sub hl [2, 3, 4, 5, 6, 1, 0] rfl) hf (by omega) (by omega)
  have h13 : ∀ (n : Nat) (a1 : Int32) (a2 : Int32) (σ : xSt) (H : Heap) (locs : List Loc) (ls : Array Slot) (nc ns : Nat), xw E A s.heap s σ H locs → lv_has ls 8 [(0, .ref (E.a 52)), (1, .int a1), (2, .int a2)] → fL_isDriven_c13 n a1 a2 σ = some (o1, o2) → nc + (10022 + 2 * n) ≤ 10034 → ns + (60132 + 12 * n) ≤ 60204 → W p l e rmL_isDriven s m args below meth c H locs nc ns (MQ below (xQi E A o1 o2) args s 10034 60204 A) (F0 m 13 ls []) := by
    intro n13
    induction n13 with
    | zero => intro a1 a2 σ H locs ls nc ns hw hl hf hnc hns; exact nomatch hf
    | succ n13 ih13 =>
      intro a1 a2 σ H locs ls nc ns hw hl hf hnc hns
      rw [fL_isDriven_c13_s] at hf
      refine lv_iload_n hx hb dL_isDriven_13 rfl (lv_at hl 2 rfl) ?_
      refine lv_iload_n hx hb dL_isDriven_14 rfl (lv_at hl 1 rfl) ?_
      refine lv_icmp_ge (tgt := 89) hx hb dL_isDriven_15 (by decide) (fun c15 => ?_) (fun c15 => ?_)
      · replace hf := xif_pos c15 hf
        refine lv_aload_n hx hb dL_isDriven_89 rfl (lv_at hl 0 rfl) ?_
        refine x_getr hx hb hw (cL52 hE) (own := RL) (ref := RL) (C := RL) (T := TL) (N := 10) hts hiL hown rfl 1 (by decide) hk34 (fun _ h9 => h9) rfl dL_isDriven_90 ?_
        refine lv_bipush (v := 40) hx hb dL_isDriven_93 (by decide) ?_
        obtain ⟨r4, σ5, hcl, hf⟩ := xc2_f hf
        refine x_callLi (va_runV (As := [.int 40]) (rest := []) ⟨hx, hb, hml, hown, hts⟩ (mX12_next hl0 hE 40 σ r4 σ5 hcl H.size) (cwV 1 hts gL_isDriven_X12_next rfl rfl rfl (by decide +kernel) ⟨Nat.le_of_ble_eq_true rfl, Nat.le_of_ble_eq_true rfl⟩) (x_preLV _ hw hA hGL (cL53 hE) rfl) rfl rfl hl.1 rfl (lv_room (Nat.le_of_ble_eq_true rfl)) dL_isDriven_95 ⟨show nc + 0 ≤ 10034 by omega, show ns + 0 ≤ 60204 by omega⟩) hw hA (fun H locs hw => ?_)
        clear hcl
        refine lv_istore_n (lv' := [(2, .int r4), (0, .ref (E.a 52)), (1, .int a1)]) hx hb dL_isDriven_98 rfl hl (by decide) rfl (fun ls hl => ?_)
        refine lv_ldcw hx hb hown (hts (.constant RL 268 (2147483647)) (by decide +kernel)) dL_isDriven_99 ?_
        refine lv_istore_n (lv' := [(3, .int 2147483647), (2, .int r4), (0, .ref (E.a 52)), (1, .int a1)]) hx hb dL_isDriven_102 rfl hl (by decide) rfl (fun ls hl => ?_)
        refine lv_iconst (v := 0) hx hb dL_isDriven_103 (by decide) ?_
        refine lv_istore (lv' := [(4, .int 0), (3, .int 2147483647), (2, .int r4), (0, .ref (E.a 52)), (1, .int a1)]) hx hb dL_isDriven_104 hl (by decide) rfl (fun ls hl => ?_)
        refine lv_iconst (v := 1) hx hb dL_isDriven_106 (by decide) ?_
        refine lv_istore (lv' := [(5, .int 1), (4, .int 0), (3, .int 2147483647), (2, .int r4), (0, .ref (E.a 52)), (1, .int a1)]) hx hb dL_isDriven_107 hl (by decide) rfl (fun ls hl => ?_)
        refine lv_iconst (v := 0) hx hb dL_isDriven_109 (by decide) ?_
        refine lv_istore (lv' := [(6, .int 0), (5, .int 1), (4, .int 0), (3, .int 2147483647), (2, .int r4), (0, .ref (E.a 52)), (1, .int a1)]) hx hb dL_isDriven_110 hl (by decide) rfl (fun ls hl => ?_)
        exact h112 xFU a1 r4 2147483647 0 1 0 σ5 _ _ _ (nc + 0) (ns + 0) hw (lv_sub hl [5, 6, 4, 3, 2, 1, 0] rfl) hf (by omega) (by omega)
      · replace hf := xif_neg c15 hf
        refine lv_aload_n hx hb dL_isDriven_18 rfl (lv_at hl 0 rfl) ?_
        refine x_getr hx hb hw (cL52 hE) (own := RL) (ref := RL) (C := RL) (T := TL) (N := 10) hts hiL hown rfl 1 (by decide) hk34 (fun _ h9 => h9) rfl dL_isDriven_19 ?_
        refine lv_bipush (v := 80) hx hb dL_isDriven_22 (by decide) ?_
        obtain ⟨r6, σ7, hcl, hf⟩ := xc2_f hf
        refine x_callLi (va_runV (As := [.int 80]) (rest := []) ⟨hx, hb, hml, hown, hts⟩ (mX12_next hl0 hE 80 σ r6 σ7 hcl H.size) (cwV 1 hts gL_isDriven_X12_next rfl rfl rfl (by decide +kernel) ⟨Nat.le_of_ble_eq_true rfl, Nat.le_of_ble_eq_true rfl⟩) (x_preLV _ hw hA hGL (cL53 hE) rfl) rfl rfl hl.1 rfl (lv_room (Nat.le_of_ble_eq_true rfl)) dL_isDriven_24 ⟨show nc + 0 ≤ 10034 by omega, show ns + 0 ≤ 60204 by omega⟩) hw hA (fun H locs hw => ?_)
        clear hcl
        refine lv_istore_n (lv' := [(3, .int r6), (0, .ref (E.a 52)), (1, .int a1), (2, .int a2)]) hx hb dL_isDriven_27 rfl hl (by decide) rfl (fun ls hl => ?_)
        refine lv_aload_n hx hb dL_isDriven_28 rfl (lv_at hl 1 rfl) ?_
        refine x_getr hx hb hw (cL52 hE) (own := RL) (ref := RL) (C := RL) (T := TL) (N := 10) hts hiL hown rfl 0 (by decide) hk10 (fun _ h9 => h9) rfl dL_isDriven_29 ?_
        refine lv_aload_n hx hb dL_isDriven_32 rfl (lv_at hl 1 rfl) ?_
        refine x_getr hx hb hw (cL52 hE) (own := RL) (ref := RL) (C := RL) (T := TL) (N := 10) hts hiL hown rfl 1 (by decide) hk34 (fun _ h9 => h9) rfl dL_isDriven_33 ?_
        refine lv_bipush (v := 21) hx hb dL_isDriven_36 (by decide) ?_
        obtain ⟨r8, σ9, hcl, hf⟩ := xc2_f hf
        refine x_callLi (va_runV (As := [.int 21]) (rest := [.ref (E.a 0)]) ⟨hx, hb, hml, hown, hts⟩ (mX12_next hl0 hE 21 σ7 r8 σ9 hcl H.size) (cwV 1 hts gL_isDriven_X12_next rfl rfl rfl (by decide +kernel) ⟨Nat.le_of_ble_eq_true rfl, Nat.le_of_ble_eq_true rfl⟩) (x_preLV _ hw hA hGL (cL53 hE) rfl) rfl rfl hl.1 rfl (lv_room (Nat.le_of_ble_eq_true rfl)) dL_isDriven_38 ⟨show (nc + 0) + 0 ≤ 10034 by omega, show (ns + 0) + 0 ≤ 60204 by omega⟩) hw hA (fun H locs hw => ?_)
        clear hcl
        refine lv_aload_n hx hb dL_isDriven_41 rfl (lv_at hl 1 rfl) ?_
        refine x_getr hx hb hw (cL52 hE) (own := RL) (ref := RL) (C := RL) (T := TL) (N := 10) hts hiL hown rfl 1 (by decide) hk34 (fun _ h9 => h9) rfl dL_isDriven_42 ?_
        refine lv_bipush (v := 21) hx hb dL_isDriven_45 (by decide) ?_
        obtain ⟨r10, σ11, hcl, hf⟩ := xc2_f hf
        refine x_callLi (va_runV (As := [.int 21]) (rest := [.int r8, .ref (E.a 0)]) ⟨hx, hb, hml, hown, hts⟩ (mX12_next hl0 hE 21 σ9 r10 σ11 hcl H.size) (cwV 1 hts gL_isDriven_X12_next rfl rfl rfl (by decide +kernel) ⟨Nat.le_of_ble_eq_true rfl, Nat.le_of_ble_eq_true rfl⟩) (x_preLV _ hw hA hGL (cL53 hE) rfl) rfl rfl hl.1 rfl (lv_room (Nat.le_of_ble_eq_true rfl)) dL_isDriven_47 ⟨show ((nc + 0) + 0) + 0 ≤ 10034 by omega, show ((ns + 0) + 0) + 0 ≤ 60204 by omega⟩) hw hA (fun H locs hw => ?_)
        clear hcl
        refine lv_iload_n hx hb dL_isDriven_50 rfl (lv_at hl 0 rfl) ?_
        refine lv_iload_n hx hb dL_isDriven_51 rfl (lv_at hl 0 rfl) ?_
        refine lv_bipush (v := 20) hx hb dL_isDriven_52 (by decide) ?_
        refine lv_iadd hx hb dL_isDriven_54 ?_
        refine lv_aload_n hx hb dL_isDriven_55 rfl (lv_at hl 1 rfl) ?_
        refine x_getr hx hb hw (cL52 hE) (own := RL) (ref := RL) (C := RL) (T := TL) (N := 10) hts hiL hown rfl 1 (by decide) hk34 (fun _ h9 => h9) rfl dL_isDriven_56 ?_
        refine lv_bipush (v := 120) hx hb dL_isDriven_59 (by decide) ?_
        obtain ⟨r12, σ13, hcl, hf⟩ := xc2_f hf
        refine x_callLi (va_runV (As := [.int 120]) (rest := [.int (r6 + 20), .int r6, .int r10, .int r8, .ref (E.a 0)]) ⟨hx, hb, hml, hown, hts⟩ (mX12_next hl0 hE 120 σ11 r12 σ13 hcl H.size) (cwV 1 hts gL_isDriven_X12_next rfl rfl rfl (by decide +kernel) ⟨Nat.le_of_ble_eq_true rfl, Nat.le_of_ble_eq_true rfl⟩) (x_preLV _ hw hA hGL (cL53 hE) rfl) rfl rfl hl.1 rfl (lv_room (Nat.le_of_ble_eq_true rfl)) dL_isDriven_61 ⟨show (((nc + 0) + 0) + 0) + 0 ≤ 10034 by omega, show (((ns + 0) + 0) + 0) + 0 ≤ 60204 by omega⟩) hw hA (fun H locs hw => ?_)
        clear hcl
        refine lv_iadd hx hb dL_isDriven_64 ?_
        refine lv_aload_n hx hb dL_isDriven_65 rfl (lv_at hl 1 rfl) ?_
        refine x_getr hx hb hw (cL52 hE) (own := RL) (ref := RL) (C := RL) (T := TL) (N := 10) hts hiL hown rfl 1 (by decide) hk34 (fun _ h9 => h9) rfl dL_isDriven_66 ?_
        refine lv_bipush (v := 10) hx hb dL_isDriven_69 (by decide) ?_
        obtain ⟨r14, σ15, hcl, hf⟩ := xc2_f hf
        refine x_callLi (va_runV (As := [.int 10]) (rest := [.int ((r6 + 20) + r12), .int r6, .int r10, .int r8, .ref (E.a 0)]) ⟨hx, hb, hml, hown, hts⟩ (mX12_next hl0 hE 10 σ13 r14 σ15 hcl H.size) (cwV 1 hts gL_isDriven_X12_next rfl rfl rfl (by decide +kernel) ⟨Nat.le_of_ble_eq_true rfl, Nat.le_of_ble_eq_true rfl⟩) (x_preLV _ hw hA hGL (cL53 hE) rfl) rfl rfl hl.1 rfl (lv_room (Nat.le_of_ble_eq_true rfl)) dL_isDriven_71 ⟨show ((((nc + 0) + 0) + 0) + 0) + 0 ≤ 10034 by omega, show ((((ns + 0) + 0) + 0) + 0) + 0 ≤ 60204 by omega⟩) hw hA (fun H locs hw => ?_)
        clear hcl
        obtain ⟨r16, σ9, hcl, hf⟩ := xco_g hf
        refine x_tcallo (vx_runV (As := [.int r8, .int r10, .int r6, .int ((r6 + 20) + r12), .int r14]) (rest := []) ⟨hx, hb, hml, hown, hts⟩ (mX11_addShop hl0 (E := xCut E σ15) rfl r8 r10 r6 ((r6 + 20) + r12) r14 σ15 (.inl r16) σ9 hcl H.size) (cwV 5 hts gL_isDriven_X11_addShop rfl rfl rfl (by decide +kernel) ⟨Nat.le_of_ble_eq_true rfl, Nat.le_of_ble_eq_true rfl⟩) (x_preV _ (xw_cut hE hw) hA hG (cX0 (E := xCut E σ15) rfl) rfl) rfl rfl hl.1 rfl (lv_room (Nat.le_of_ble_eq_true rfl)) dL_isDriven_74 ⟨show (((((nc + 0) + 0) + 0) + 0) + 0) + 2 ≤ 10034 by omega, show (((((ns + 0) + 0) + 0) + 0) + 0) + 12 ≤ 60204 by omega⟩) (xw_cut hE hw) hA (fun H locs hw => ?_)
        obtain ⟨σ17, eρ, hw⟩ := xw_unc2 hE hw
        replace hf := hf σ17 eρ
        clear eρ hcl
        refine lv_iload_n hx hb dL_isDriven_77 rfl (lv_at hl 3 rfl) ?_
        refine lv_icmp_eq (tgt := 83) hx hb dL_isDriven_78 (by decide) (fun c78 => ?_) (fun c78 => ?_)
        · replace hf := xif_pos c78 hf
          obtain ⟨v18, ex⟩ : ∃ y : Int32, y = (a2 + 1) := ⟨_, rfl⟩
          replace hf := xl_f hf v18 ex
          refine lv_iinc (v := v18) (lv' := [(2, .int v18), (3, .int r6), (0, .ref (E.a 52)), (1, .int a1)]) hx hb dL_isDriven_83 hl (k := 3) rfl (by rw [ex]; rfl) (by decide) rfl (fun ls hl => ?_)
          clear ex
          refine lv_goto (tgt := 13) hx hb dL_isDriven_86 (by decide) ?_
          exact ih13 a1 v18 σ17 _ _ _ ((((((nc + 0) + 0) + 0) + 0) + 0) + 2) ((((((ns + 0) + 0) + 0) + 0) + 0) + 12) hw (lv_sub hl [2, 3, 0] rfl) hf (by omega) (by omega)
        · replace hf := xif_neg c78 hf
          refine lv_iconst (v := 0) hx hb dL_isDriven_81 (by decide) ?_
          exact x_Lzretc hx hb hr hlk hw (by decide) hf (show ((((((nc + 0) + 0) + 0) + 0) + 0) + 2) ≤ 10034 by omega) (show ((((((ns + 0) + 0) + 0) + 0) + 0) + 12) ≤ 60204 by omega) dL_isDriven_82
  refine lv_iconst (v := 1) hx hb dL_isDriven_0 (by decide) ?_
  refine lv_aload_n hx hb dL_isDriven_1 rfl (lv_at hl 0 rfl) ?_
  refine x_getr hx hb hw (cL52 hE) (own := RL) (ref := RL) (C := RL) (T := TL) (N := 10) hts hiL hown rfl 1 (by decide) hk34 (fun _ h9 => h9) rfl dL_isDriven_2 ?_
  refine lv_iconst (v := 4) hx hb dL_isDriven_5 (by decide) ?_
  obtain ⟨r1, σ2, hcl, hf⟩ := xc2_f hf
  refine x_callLi (va_runV (As := [.int 4]) (rest := [.int 1]) ⟨hx, hb, hml, hown, hts⟩ (mX12_next hl0 hE 4 σ r1 σ2 hcl s.heap.size) (cwV 1 hts gL_isDriven_X12_next rfl rfl rfl (by decide +kernel) ⟨Nat.le_of_ble_eq_true rfl, Nat.le_of_ble_eq_true rfl⟩) (x_preLV _ hw hA hGL (cL53 hE) rfl) rfl rfl hl.1 rfl (lv_room (Nat.le_of_ble_eq_true rfl)) dL_isDriven_6 ⟨show 0 + 0 ≤ 10034 by omega, show 0 + 0 ≤ 60204 by omega⟩) hw hA (fun H locs hw => ?_)
  clear hcl
  refine lv_iadd hx hb dL_isDriven_9 ?_
  refine lv_topi (fun v3 ex => ?_)
  replace hf := xl_f hf v3 ex
  clear ex
  refine lv_istore_n (lv' := [(1, .int v3), (0, .ref (E.a 52))]) hx hb dL_isDriven_10 rfl hl (by decide) rfl (fun ls hl => ?_)
  refine lv_iconst (v := 0) hx hb dL_isDriven_11 (by decide) ?_
  refine lv_istore_n (lv' := [(2, .int 0), (1, .int v3), (0, .ref (E.a 52))]) hx hb dL_isDriven_12 rfl hl (by decide) rfl (fun ls hl => ?_)
  exact h13 6 v3 0 σ2 _ _ _ (0 + 0) (0 + 0) hw (lv_sub hl [2, 1, 0] rfl) hf (by omega) (by omega)
