def fL_isClean_c96 (k38 : (Int32 → Int32 → Int32 → Int32 → Int32 → Int32 → xSt → Option (Int32 × xSt))) (a1 : Int32) (a2 : Int32) (a4 : Int32) (a6 : Int32) (a7 : Int32) (t0 : Int32) (t1 : Int32) (σ : xSt) : Option (Int32 × xSt) := (xl (t1 + t0) fun v14 => (xl (a4 ||| ((1 : Int32) <<< (a7 &&& 31))) fun v15 => (xl (a6 + 1) fun v16 => k38 a1 a2 v14 v15 a7 v16 σ)))
def fL_isClean_c38 : Nat → Int32 → Int32 → Int32 → Int32 → Int32 → Int32 → xSt → Option (Int32 × xSt)
  | 0 => fun _ _ _ _ _ _ _ => none
  | n + 1 => fun a1 a2 a3 a4 a5 a6 σ => (if a4 = a1 then (if a3 = a2 then (xc2 (fL_cheapest 6 a1 (-1) σ) fun r6 σ7 => (if a2 = r6 then (xco (fX11_cleaning 0 σ7) σ7 fun r8 σ9 => (if r8 = 0 then some (1, σ9) else some (0, σ9))) else some (0, σ7))) else some (0, σ)) else (xco (fX11_rowAt a1 a6 σ) σ fun r10 σ11 => (if ((a1 >>> (r10 &&& 31)) &&& 1) = 0 then some (0, σ11) else (if ((a4 >>> (r10 &&& 31)) &&& 1) = 1 then some (0, σ11) else (if 0 ≤ a5 then (xc2 (fL_price a5 r10 σ11) fun r12 σ13 => fL_isClean_c96 (fL_isClean_c38 n) a1 a2 a4 a6 r10 r12 a3 σ13) else fL_isClean_c96 (fL_isClean_c38 n) a1 a2 a4 a6 r10 0 a3 σ11)))))
theorem fL_isClean_c38_s (n : Nat) (a1 : Int32) (a2 : Int32) (a3 : Int32) (a4 : Int32) (a5 : Int32) (a6 : Int32) (σ : xSt) : fL_isClean_c38 (n + 1) a1 a2 a3 a4 a5 a6 σ = ((if a4 = a1 then (if a3 = a2 then (xc2 (fL_cheapest 6 a1 (-1) σ) fun r6 σ7 => (if a2 = r6 then (xco (fX11_cleaning 0 σ7) σ7 fun r8 σ9 => (if r8 = 0 then some (1, σ9) else some (0, σ9))) else some (0, σ7))) else some (0, σ)) else (xco (fX11_rowAt a1 a6 σ) σ fun r10 σ11 => (if ((a1 >>> (r10 &&& 31)) &&& 1) = 0 then some (0, σ11) else (if ((a4 >>> (r10 &&& 31)) &&& 1) = 1 then some (0, σ11) else (if 0 ≤ a5 then (xc2 (fL_price a5 r10 σ11) fun r12 σ13 => fL_isClean_c96 (fL_isClean_c38 n) a1 a2 a4 a6 r10 r12 a3 σ13) else fL_isClean_c96 (fL_isClean_c38 n) a1 a2 a4 a6 r10 0 a3 σ11))))) : Option (Int32 × xSt)) := rfl
def fL_isClean (σ : xSt) : Option (Int32 × xSt) := (xc2 (fX12_next (((1 : Int32) <<< ((σ 52 2) &&& 31)) - 1) σ) fun r1 σ2 => (xl (1 + r1) fun v3 => (xco (fX11_cleaning v3 σ2) σ2 fun r4 σ5 => fL_isClean_c38 xF6 v3 r4 0 0 (-1) 0 σ5)))
abbrev rmL_isClean : Room := { frames := 14, cells := 14, slots := 84, locals := 414 }
set_option maxRecDepth 100000 in
set_option maxHeartbeats 8000000 in
theorem mL_isClean {l : Launch} (hl0 : l.stackTraces = false) {E : xE} (hE : xLE E) (σ : xSt) (o1 : Int32) (o2 : xSt) (hf : fL_isClean σ = some (o1, o2)) : xLi l yL_isClean wsL_isClean rmL_isClean E [.ref (E.a 52)] σ o1 o2 14 84 := by
  unfold fL_isClean at hf
  refine xLi_of (cc := cL_isClean) (maxL := 8) (ret := (some .boolean)) (by decide) rfl (Nat.le_of_ble_eq_true rfl) ?_
  intro p e s m args below meth c A ls ⟨hx, hb, hr, hml, hown, hts, hlk⟩ hA hGL hw hl
  have hG := hGL.1
  have eF6 : xF6 = 6 := rfl
  have hown : s.vm.findClass RL = some m.cls := hown
  have hl : lv_has ls 8 [(0, .ref (E.a 52))] := hl
  have hk34 := hts (.fieldLink RL 34 "OvenRoundLaw" "d" "LOvenRoundLaw$Draws;") (by decide +kernel)
  have hiL : ∀ w ∈ wsL0, w ∈ wsL_isClean := by decide +kernel
  have hk62 := hts (.fieldLink RL 62 "OvenRoundLaw" "recipes" "I") (by decide +kernel)
  have hk10 := hts (.fieldLink RL 10 "OvenRoundLaw" "o" "LOvenRound;") (by decide +kernel)
  have h38 : ∀ (n : Nat) (a1 : Int32) (a2 : Int32) (a3 : Int32) (a4 : Int32) (a5 : Int32) (a6 : Int32) (σ : xSt) (H : Heap) (locs : List Loc) (ls : Array Slot) (nc ns : Nat), xw E A s.heap s σ H locs → lv_has ls 8 [(0, .ref (E.a 52)), (1, .int a1), (2, .int a2), (3, .int a3), (4, .int a4), (5, .int a5), (6, .int a6)] → fL_isClean_c38 n a1 a2 a3 a4 a5 a6 σ = some (o1, o2) → nc + (1 + 2 * n) ≤ 14 → ns + (6 + 12 * n) ≤ 84 → W p l e rmL_isClean s m args below meth c H locs nc ns (MQ below (xQi E A o1 o2) args s 14 84 A) (F0 m 38 ls []) := by
    intro n38
    induction n38 with
    | zero => intro a1 a2 a3 a4 a5 a6 σ H locs ls nc ns hw hl hf hnc hns; exact nomatch hf
    | succ n38 ih38 =>
      have h96 : ∀ (a1 : Int32) (a2 : Int32) (a4 : Int32) (a6 : Int32) (a7 : Int32) (t0 : Int32) (t1 : Int32) (σ : xSt) (H : Heap) (locs : List Loc) (ls : Array Slot) (nc ns : Nat), xw E A s.heap s σ H locs → lv_has ls 8 [(0, .ref (E.a 52)), (1, .int a1), (2, .int a2), (4, .int a4), (6, .int a6), (7, .int a7)] → fL_isClean_c96 (fL_isClean_c38 n38) a1 a2 a4 a6 a7 t0 t1 σ = some (o1, o2) → nc + (1 + 2 * n38) ≤ 14 → ns + (6 + 12 * n38) ≤ 84 → W p l e rmL_isClean s m args below meth c H locs nc ns (MQ below (xQi E A o1 o2) args s 14 84 A) (F0 m 96 ls [.int t0, .int t1]) := by
        intro a1 a2 a4 a6 a7 t0 t1 σ H locs ls nc ns hw hl hf hnc hns
        unfold fL_isClean_c96 at hf
        refine lv_iadd hx hb dL_isClean_96 ?_
        refine lv_topi (fun v14 ex => ?_)
        replace hf := xl_f hf v14 ex
        clear ex
        refine lv_istore_n (lv' := [(3, .int v14), (0, .ref (E.a 52)), (1, .int a1), (2, .int a2), (4, .int a4), (6, .int a6), (7, .int a7)]) hx hb dL_isClean_97 rfl hl (by decide) rfl (fun ls hl => ?_)
        refine lv_iload hx hb dL_isClean_98 (lv_at hl 4 rfl) ?_
        refine lv_iconst (v := 1) hx hb dL_isClean_100 (by decide) ?_
        refine lv_iload hx hb dL_isClean_101 (lv_at hl 6 rfl) ?_
        refine lv_ishl hx hb dL_isClean_103 ?_
        refine lv_ior hx hb dL_isClean_104 ?_
        refine lv_topi (fun v15 ex => ?_)
        replace hf := xl_f hf v15 ex
        clear ex
        refine lv_istore (lv' := [(4, .int v15), (3, .int v14), (0, .ref (E.a 52)), (1, .int a1), (2, .int a2), (6, .int a6), (7, .int a7)]) hx hb dL_isClean_105 hl (by decide) rfl (fun ls hl => ?_)
        refine lv_iload hx hb dL_isClean_107 (lv_at hl 6 rfl) ?_
        refine lv_istore (lv' := [(5, .int a7), (4, .int v15), (3, .int v14), (0, .ref (E.a 52)), (1, .int a1), (2, .int a2), (6, .int a6), (7, .int a7)]) hx hb dL_isClean_109 hl (by decide) rfl (fun ls hl => ?_)
        obtain ⟨v16, ex⟩ : ∃ y : Int32, y = (a6 + 1) := ⟨_, rfl⟩
        replace hf := xl_f hf v16 ex
        refine lv_iinc (v := v16) (lv' := [(6, .int v16), (5, .int a7), (4, .int v15), (3, .int v14), (0, .ref (E.a 52)), (1, .int a1), (2, .int a2), (7, .int a7)]) hx hb dL_isClean_111 hl (k := 6) rfl (by rw [ex]; rfl) (by decide) rfl (fun ls hl => ?_)
        clear ex
        refine lv_goto (tgt := 38) hx hb dL_isClean_114 (by decide) ?_
        exact ih38 a1 a2 v14 v15 a7 v16 σ _ _ _ nc ns hw (lv_sub hl [4, 5, 6, 3, 2, 1, 0] rfl) hf (by omega) (by omega)
      intro a1 a2 a3 a4 a5 a6 σ H locs ls nc ns hw hl hf hnc hns
      rw [fL_isClean_c38_s] at hf
      refine lv_iload hx hb dL_isClean_38 (lv_at hl 4 rfl) ?_
      refine lv_iload_n hx hb dL_isClean_40 rfl (lv_at hl 1 rfl) ?_
      refine lv_icmp_eq (tgt := 117) hx hb dL_isClean_41 (by decide) (fun c41 => ?_) (fun c41 => ?_)
      · replace hf := xif_pos c41 hf
        refine lv_iload_n hx hb dL_isClean_117 rfl (lv_at hl 3 rfl) ?_
        refine lv_iload_n hx hb dL_isClean_118 rfl (lv_at hl 2 rfl) ?_
        refine lv_icmp_ne (tgt := 147) hx hb dL_isClean_119 (by decide) (fun c119 => ?_) (fun c119 => ?_)
        · replace hf := xif_neg c119 hf
          refine lv_iconst (v := 0) hx hb dL_isClean_147 (by decide) ?_
          exact x_Lzretc hx hb hr hlk hw (by decide) hf (show nc ≤ 14 by omega) (show ns ≤ 84 by omega) dL_isClean_148
        · replace hf := xif_pos c119 hf
          refine lv_iload_n hx hb dL_isClean_122 rfl (lv_at hl 2 rfl) ?_
          refine lv_aload_n hx hb dL_isClean_123 rfl (lv_at hl 0 rfl) ?_
          refine lv_iload_n hx hb dL_isClean_124 rfl (lv_at hl 1 rfl) ?_
          refine lv_iconst (v := (-1)) hx hb dL_isClean_125 (by decide) ?_
          obtain ⟨r6, σ7, hcl, hf⟩ := xc2_f hf
          refine x_callLi (va_runV (As := [.int a1, .int (-1)]) (rest := [.int a2]) ⟨hx, hb, hml, hown, hts⟩ (mL_cheapest hl0 hE 6 a1 (-1) σ r6 σ7 hcl H.size) (cwV 2 hts gL_isClean_L_cheapest rfl rfl rfl (by decide +kernel) ⟨Nat.le_of_ble_eq_true rfl, Nat.le_of_ble_eq_true rfl⟩) (x_preLV _ hw hA hGL (cL52 hE) rfl) rfl rfl hl.1 rfl (lv_room (Nat.le_of_ble_eq_true rfl)) dL_isClean_126 ⟨show nc + 0 ≤ 14 by omega, show ns + 0 ≤ 84 by omega⟩) hw hA (fun H locs hw => ?_)
          clear hcl
          refine lv_icmp_ne (tgt := 147) hx hb dL_isClean_129 (by decide) (fun c129 => ?_) (fun c129 => ?_)
          · replace hf := xif_neg c129 hf
            refine lv_iconst (v := 0) hx hb dL_isClean_147 (by decide) ?_
            exact x_Lzretc hx hb hr hlk hw (by decide) hf (show (nc + 0) ≤ 14 by omega) (show (ns + 0) ≤ 84 by omega) dL_isClean_148
          · replace hf := xif_pos c129 hf
            refine lv_aload_n hx hb dL_isClean_132 rfl (lv_at hl 0 rfl) ?_
            refine x_getr hx hb hw (cL52 hE) (own := RL) (ref := RL) (C := RL) (T := TL) (N := 10) hts hiL hown rfl 0 (by decide) hk10 (fun _ h9 => h9) rfl dL_isClean_133 ?_
            refine lv_iconst (v := 0) hx hb dL_isClean_136 (by decide) ?_
            obtain ⟨r8, τ9, hcl, hf⟩ := xco_g hf
            refine x_tcallo (vx_runV (As := [.int 0]) (rest := []) ⟨hx, hb, hml, hown, hts⟩ (mX11_cleaning hl0 (E := xCut E σ7) rfl 0 σ7 (.inl r8) τ9 hcl H.size) (cwV 1 hts gL_isClean_X11_cleaning rfl rfl rfl (by decide +kernel) ⟨Nat.le_of_ble_eq_true rfl, Nat.le_of_ble_eq_true rfl⟩) (x_preV _ (xw_cut hE hw) hA hG (cX0 (E := xCut E σ7) rfl) rfl) rfl rfl hl.1 rfl (lv_room (Nat.le_of_ble_eq_true rfl)) dL_isClean_137 ⟨show (nc + 0) + 1 ≤ 14 by omega, show (ns + 0) + 6 ≤ 84 by omega⟩) (xw_cut hE hw) hA (fun H locs hw => ?_)
            obtain ⟨σ9, eρ, hw⟩ := xw_unc2 hE hw
            replace hf := hf σ9 eρ
            clear eρ hcl
            refine lv_if_ne (tgt := 147) hx hb dL_isClean_140 (by decide) (fun c140 => ?_) (fun c140 => ?_)
            · replace hf := xif_neg c140 hf
              refine lv_iconst (v := 0) hx hb dL_isClean_147 (by decide) ?_
              exact x_Lzretc hx hb hr hlk hw (by decide) hf (show ((nc + 0) + 1) ≤ 14 by omega) (show ((ns + 0) + 6) ≤ 84 by omega) dL_isClean_148
            · replace hf := xif_pos c140 hf
              refine lv_iconst (v := 1) hx hb dL_isClean_143 (by decide) ?_
              refine lv_goto (tgt := 148) hx hb dL_isClean_144 (by decide) ?_
              exact x_Lzretc hx hb hr hlk hw (by decide) hf (show ((nc + 0) + 1) ≤ 14 by omega) (show ((ns + 0) + 6) ≤ 84 by omega) dL_isClean_148
      · replace hf := xif_neg c41 hf
        refine lv_aload_n hx hb dL_isClean_44 rfl (lv_at hl 0 rfl) ?_
        refine x_getr hx hb hw (cL52 hE) (own := RL) (ref := RL) (C := RL) (T := TL) (N := 10) hts hiL hown rfl 0 (by decide) hk10 (fun _ h9 => h9) rfl dL_isClean_45 ?_
        refine lv_iload_n hx hb dL_isClean_48 rfl (lv_at hl 1 rfl) ?_
        refine lv_iload hx hb dL_isClean_49 (lv_at hl 6 rfl) ?_
        obtain ⟨r10, τ9, hcl, hf⟩ := xco_g hf
        refine x_tcallo (vx_runV (As := [.int a1, .int a6]) (rest := []) ⟨hx, hb, hml, hown, hts⟩ (mX11_rowAt hl0 (E := xCut E σ) rfl a1 a6 σ (.inl r10) τ9 hcl H.size) (cwV 2 hts gL_isClean_X11_rowAt rfl rfl rfl (by decide +kernel) ⟨Nat.le_of_ble_eq_true rfl, Nat.le_of_ble_eq_true rfl⟩) (x_preV _ (xw_cut hE hw) hA hG (cX0 (E := xCut E σ) rfl) rfl) rfl rfl hl.1 rfl (lv_room (Nat.le_of_ble_eq_true rfl)) dL_isClean_51 ⟨show nc + 2 ≤ 14 by omega, show ns + 12 ≤ 84 by omega⟩) (xw_cut hE hw) hA (fun H locs hw => ?_)
        obtain ⟨σ11, eρ, hw⟩ := xw_unc2 hE hw
        replace hf := hf σ11 eρ
        clear eρ hcl
        refine lv_istore (lv' := [(7, .int r10), (0, .ref (E.a 52)), (1, .int a1), (2, .int a2), (3, .int a3), (4, .int a4), (5, .int a5), (6, .int a6)]) hx hb dL_isClean_54 hl (by decide) rfl (fun ls hl => ?_)
        refine lv_iload_n hx hb dL_isClean_56 rfl (lv_at hl 2 rfl) ?_
        refine lv_iload hx hb dL_isClean_57 (lv_at hl 0 rfl) ?_
        refine lv_ishr hx hb dL_isClean_59 ?_
        refine lv_iconst (v := 1) hx hb dL_isClean_60 (by decide) ?_
        refine lv_iand hx hb dL_isClean_61 ?_
        refine lv_if_eq (tgt := 76) hx hb dL_isClean_62 (by decide) (fun c62 => ?_) (fun c62 => ?_)
        · replace hf := xif_pos c62 hf
          refine lv_iconst (v := 0) hx hb dL_isClean_76 (by decide) ?_
          exact x_Lzretc hx hb hr hlk hw (by decide) hf (show (nc + 2) ≤ 14 by omega) (show (ns + 12) ≤ 84 by omega) dL_isClean_77
        · replace hf := xif_neg c62 hf
          refine lv_iload hx hb dL_isClean_65 (lv_at hl 5 rfl) ?_
          refine lv_iload hx hb dL_isClean_67 (lv_at hl 0 rfl) ?_
          refine lv_ishr hx hb dL_isClean_69 ?_
          refine lv_iconst (v := 1) hx hb dL_isClean_70 (by decide) ?_
          refine lv_iand hx hb dL_isClean_71 ?_
          refine lv_iconst (v := 1) hx hb dL_isClean_72 (by decide) ?_
          refine lv_icmp_ne (tgt := 78) hx hb dL_isClean_73 (by decide) (fun c73 => ?_) (fun c73 => ?_)
          · replace hf := xif_neg c73 hf
            refine lv_iload_n hx hb dL_isClean_78 rfl (lv_at hl 4 rfl) ?_
            refine lv_iload hx hb dL_isClean_79 (lv_at hl 6 rfl) ?_
            refine lv_if_ge (tgt := 88) hx hb dL_isClean_81 (by decide) (fun c81 => ?_) (fun c81 => ?_)
            · replace hf := xif_pos c81 hf
              refine lv_aload_n hx hb dL_isClean_88 rfl (lv_at hl 1 rfl) ?_
              refine lv_iload hx hb dL_isClean_89 (lv_at hl 6 rfl) ?_
              refine lv_iload hx hb dL_isClean_91 (lv_at hl 0 rfl) ?_
              obtain ⟨r12, σ13, hcl, hf⟩ := xc2_f hf
              refine x_callLi (va_runV (As := [.int a5, .int r10]) (rest := [.int a3]) ⟨hx, hb, hml, hown, hts⟩ (mL_price hl0 hE a5 r10 σ11 r12 σ13 hcl H.size) (cwV 2 hts gL_isClean_L_price rfl rfl rfl (by decide +kernel) ⟨Nat.le_of_ble_eq_true rfl, Nat.le_of_ble_eq_true rfl⟩) (x_preLV _ hw hA hGL (cL52 hE) rfl) rfl rfl hl.1 rfl (lv_room (Nat.le_of_ble_eq_true rfl)) dL_isClean_93 ⟨show (nc + 2) + 0 ≤ 14 by omega, show (ns + 12) + 0 ≤ 84 by omega⟩) hw hA (fun H locs hw => ?_)
              clear hcl
              exact h96 a1 a2 a4 a6 r10 r12 a3 σ13 _ _ _ ((nc + 2) + 0) ((ns + 12) + 0) hw (lv_sub hl [1, 2, 3, 5, 7, 0] rfl) hf (by omega) (by omega)
            · replace hf := xif_neg c81 hf
              refine lv_iconst (v := 0) hx hb dL_isClean_84 (by decide) ?_
              refine lv_goto (tgt := 96) hx hb dL_isClean_85 (by decide) ?_
              exact h96 a1 a2 a4 a6 r10 0 a3 σ11 _ _ _ (nc + 2) (ns + 12) hw (lv_sub hl [1, 2, 3, 5, 7, 0] rfl) hf (by omega) (by omega)
          · replace hf := xif_pos c73 hf
            refine lv_iconst (v := 0) hx hb dL_isClean_76 (by decide) ?_
            exact x_Lzretc hx hb hr hlk hw (by decide) hf (show (nc + 2) ≤ 14 by omega) (show (ns + 12) ≤ 84 by omega) dL_isClean_77
  refine lv_iconst (v := 1) hx hb dL_isClean_0 (by decide) ?_
  refine lv_aload_n hx hb dL_isClean_1 rfl (lv_at hl 0 rfl) ?_
  refine x_getr hx hb hw (cL52 hE) (own := RL) (ref := RL) (C := RL) (T := TL) (N := 10) hts hiL hown rfl 1 (by decide) hk34 (fun _ h9 => h9) rfl dL_isClean_2 ?_
  refine lv_iconst (v := 1) hx hb dL_isClean_5 (by decide) ?_
  refine lv_aload_n hx hb dL_isClean_6 rfl (lv_at hl 0 rfl) ?_
  refine x_geti hx hb hw (cL52 hE) (own := RL) (ref := RL) (C := RL) (T := TL) (N := 10) hts hiL hown rfl 2 (by decide) hk62 (fun _ h9 => h9) rfl dL_isClean_7 ?_
  refine lv_ishl hx hb dL_isClean_10 ?_
  refine lv_iconst (v := 1) hx hb dL_isClean_11 (by decide) ?_
  refine lv_isub hx hb dL_isClean_12 ?_
  obtain ⟨r1, σ2, hcl, hf⟩ := xc2_f hf
  refine x_callLi (va_runV (As := [.int (((1 : Int32) <<< ((σ 52 2) &&& 31)) - 1)]) (rest := [.int 1]) ⟨hx, hb, hml, hown, hts⟩ (mX12_next hl0 hE (((1 : Int32) <<< ((σ 52 2) &&& 31)) - 1) σ r1 σ2 hcl s.heap.size) (cwV 1 hts gL_isClean_X12_next rfl rfl rfl (by decide +kernel) ⟨Nat.le_of_ble_eq_true rfl, Nat.le_of_ble_eq_true rfl⟩) (x_preLV _ hw hA hGL (cL53 hE) rfl) rfl rfl hl.1 rfl (lv_room (Nat.le_of_ble_eq_true rfl)) dL_isClean_13 ⟨show 0 + 0 ≤ 14 by omega, show 0 + 0 ≤ 84 by omega⟩) hw hA (fun H locs hw => ?_)
  clear hcl
  refine lv_iadd hx hb dL_isClean_16 ?_
  refine lv_topi (fun v3 ex => ?_)
  replace hf := xl_f hf v3 ex
  clear ex
  refine lv_istore_n (lv' := [(1, .int v3), (0, .ref (E.a 52))]) hx hb dL_isClean_17 rfl hl (by decide) rfl (fun ls hl => ?_)
  refine lv_aload_n hx hb dL_isClean_18 rfl (lv_at hl 1 rfl) ?_
  refine x_getr hx hb hw (cL52 hE) (own := RL) (ref := RL) (C := RL) (T := TL) (N := 10) hts hiL hown rfl 0 (by decide) hk10 (fun _ h9 => h9) rfl dL_isClean_19 ?_
  refine lv_iload_n hx hb dL_isClean_22 rfl (lv_at hl 0 rfl) ?_
  obtain ⟨r4, τ9, hcl, hf⟩ := xco_g hf
  refine x_tcallo (vx_runV (As := [.int v3]) (rest := []) ⟨hx, hb, hml, hown, hts⟩ (mX11_cleaning hl0 (E := xCut E σ2) rfl v3 σ2 (.inl r4) τ9 hcl H.size) (cwV 1 hts gL_isClean_X11_cleaning rfl rfl rfl (by decide +kernel) ⟨Nat.le_of_ble_eq_true rfl, Nat.le_of_ble_eq_true rfl⟩) (x_preV _ (xw_cut hE hw) hA hG (cX0 (E := xCut E σ2) rfl) rfl) rfl rfl hl.1 rfl (lv_room (Nat.le_of_ble_eq_true rfl)) dL_isClean_23 ⟨show (0 + 0) + 1 ≤ 14 by omega, show (0 + 0) + 6 ≤ 84 by omega⟩) (xw_cut hE hw) hA (fun H locs hw => ?_)
  obtain ⟨σ5, eρ, hw⟩ := xw_unc2 hE hw
  replace hf := hf σ5 eρ
  clear eρ hcl
  refine lv_istore_n (lv' := [(2, .int r4), (1, .int v3), (0, .ref (E.a 52))]) hx hb dL_isClean_26 rfl hl (by decide) rfl (fun ls hl => ?_)
  refine lv_iconst (v := 0) hx hb dL_isClean_27 (by decide) ?_
  refine lv_istore_n (lv' := [(3, .int 0), (2, .int r4), (1, .int v3), (0, .ref (E.a 52))]) hx hb dL_isClean_28 rfl hl (by decide) rfl (fun ls hl => ?_)
  refine lv_iconst (v := 0) hx hb dL_isClean_29 (by decide) ?_
  refine lv_istore (lv' := [(4, .int 0), (3, .int 0), (2, .int r4), (1, .int v3), (0, .ref (E.a 52))]) hx hb dL_isClean_30 hl (by decide) rfl (fun ls hl => ?_)
  refine lv_iconst (v := (-1)) hx hb dL_isClean_32 (by decide) ?_
  refine lv_istore (lv' := [(5, .int (-1)), (4, .int 0), (3, .int 0), (2, .int r4), (1, .int v3), (0, .ref (E.a 52))]) hx hb dL_isClean_33 hl (by decide) rfl (fun ls hl => ?_)
  refine lv_iconst (v := 0) hx hb dL_isClean_35 (by decide) ?_
  refine lv_istore (lv' := [(6, .int 0), (5, .int (-1)), (4, .int 0), (3, .int 0), (2, .int r4), (1, .int v3), (0, .ref (E.a 52))]) hx hb dL_isClean_36 hl (by decide) rfl (fun ls hl => ?_)
  exact h38 xF6 v3 r4 0 0 (-1) 0 σ5 _ _ _ ((0 + 0) + 1) ((0 + 0) + 6) hw (lv_sub hl [6, 5, 4, 3, 2, 1, 0] rfl) hf (by omega) (by omega)
