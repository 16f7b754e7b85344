abbrev xabs (x : Int64) : Int64 := if 0 < x then x else -x
def fL_areMade_c473 : Nat → Int32 → xSt → Option (Int32 × xSt)
  | 0 => fun _ _ => none
  | n + 1 => fun a1 σ => (if 7 ≤ a1 then (xc2 (fL_isKept σ) fun r98 σ99 => xb r98 (some (r98, σ99))) else (xco (fX11_receive a1 20000 σ) σ fun r100 σ101 => (if r100 = 20000 then (xl (a1 + 1) fun v102 => fL_areMade_c473 n v102 σ101) else some (0, σ101))))
theorem fL_areMade_c473_s (n : Nat) (a1 : Int32) (σ : xSt) : fL_areMade_c473 (n + 1) a1 σ = ((if 7 ≤ a1 then (xc2 (fL_isKept σ) fun r98 σ99 => xb r98 (some (r98, σ99))) else (xco (fX11_receive a1 20000 σ) σ fun r100 σ101 => (if r100 = 20000 then (xl (a1 + 1) fun v102 => fL_areMade_c473 n v102 σ101) else some (0, σ101)))) : Option (Int32 × xSt)) := rfl
def fL_areMade_c395 (k16 : (Int32 → xSt → Option (Int32 × xSt))) : Nat → Int32 → Int32 → Int32 → Int32 → Int32 → (Nat → Int32) → xSt → Option (Int32 × xSt)
  | 0 => fun _ _ _ _ _ _ _ => none
  | n + 1 => fun a1 a3 a5 a6 a7 rd σ => (if 8 ≤ a7 then (if a6 = a5 then (xl (a1 + 1) fun v92 => k16 v92 σ) else some (0, σ)) else (xco (fX11_amount a1 a5 a7 σ) σ fun r93 σ94 => (xrs rd 8 a7 fun v95 => (if (lg_cmp (xabs (((Int32.toInt64 r93) * (Int32.toInt64 a3)) - ((Int32.toInt64 a5) * (Int32.toInt64 v95)))) (Int32.toInt64 a3)) < 0 then (xl (a6 + r93) fun v96 => (xl (a7 + 1) fun v97 => fL_areMade_c395 k16 n a1 a3 a5 v96 v97 rd σ94)) else some (0, σ94)))))
theorem fL_areMade_c395_s (k16 : (Int32 → xSt → Option (Int32 × xSt))) (n : Nat) (a1 : Int32) (a3 : Int32) (a5 : Int32) (a6 : Int32) (a7 : Int32) (rd : (Nat → Int32)) (σ : xSt) : fL_areMade_c395 k16 (n + 1) a1 a3 a5 a6 a7 rd σ = ((if 8 ≤ a7 then (if a6 = a5 then (xl (a1 + 1) fun v92 => k16 v92 σ) else some (0, σ)) else (xco (fX11_amount a1 a5 a7 σ) σ fun r93 σ94 => (xrs rd 8 a7 fun v95 => (if (lg_cmp (xabs (((Int32.toInt64 r93) * (Int32.toInt64 a3)) - ((Int32.toInt64 a5) * (Int32.toInt64 v95)))) (Int32.toInt64 a3)) < 0 then (xl (a6 + r93) fun v96 => (xl (a7 + 1) fun v97 => fL_areMade_c395 k16 n a1 a3 a5 v96 v97 rd σ94)) else some (0, σ94))))) : Option (Int32 × xSt)) := rfl
def fL_areMade_c273 (k16 : (Int32 → xSt → Option (Int32 × xSt))) (k178 : (Int32 → Int32 → Int32 → (Nat → Int32) → Nat → (Nat → Nat) → xSt → Option (Int32 × xSt))) (a1 : Int32) (a3 : Int32) (a5 : Int32) (rd : (Nat → Int32)) (n9 : Nat) (t9 : (Nat → Nat)) (σ : xSt) : Option (Int32 × xSt) := (xrs rd 8 a5 fun v52 => (xl (a3 + v52) fun v53 => (xrs rd 8 a5 fun v54 => (if v54 ≤ 0 then (xl (a5 + 1) fun v55 => k178 a1 v53 v55 rd n9 t9 σ) else (if (nI n9) = 0 then (xle n9 48 (xl (sb_cat t9 n9 (skT 0)) fun t75 => (xl (n9 + skW 0) fun n74 => (xle n74 48 (x99 a5 (xl (sb_cat t75 n74 (sb_dec (a5).toNatClampNeg)) fun t79 => (xl (n74 + sb_dg (a5).toNatClampNeg) fun n78 => (xle n78 48 (xl (sb_cat t79 n78 (fun _ => 58)) fun t83 => (xl (n78 + 1) fun n82 => (xrs rd 8 a5 fun v86 => (xle n82 48 (x99 v86 (xl (sb_cat t83 n82 (sb_dec (v86).toNatClampNeg)) fun t88 => (xl (n82 + sb_dg (v86).toNatClampNeg) fun n87 => (xl (a5 + 1) fun v91 => k178 a1 v53 v91 rd n87 t88 σ)))))))))))))))) else (xle n9 48 (xl (sb_cat t9 n9 (skT 1)) fun t57 => (xl (n9 + skW 1) fun n56 => (xle n56 48 (x99 a5 (xl (sb_cat t57 n56 (sb_dec (a5).toNatClampNeg)) fun t61 => (xl (n56 + sb_dg (a5).toNatClampNeg) fun n60 => (xle n60 48 (xl (sb_cat t61 n60 (fun _ => 58)) fun t65 => (xl (n60 + 1) fun n64 => (xrs rd 8 a5 fun v68 => (xle n64 48 (x99 v68 (xl (sb_cat t65 n64 (sb_dec (v68).toNatClampNeg)) fun t70 => (xl (n64 + sb_dg (v68).toNatClampNeg) fun n69 => (xl (a5 + 1) fun v73 => k178 a1 v53 v73 rd n69 t70 σ)))))))))))))))))))))
def fL_areMade_c272 (k16 : (Int32 → xSt → Option (Int32 × xSt))) (k178 : (Int32 → Int32 → Int32 → (Nat → Int32) → Nat → (Nat → Nat) → xSt → Option (Int32 × xSt))) (a1 : Int32) (a3 : Int32) (a5 : Int32) (t0 : Int32) (t1 : Int32) (rd : (Nat → Int32)) (n9 : Nat) (t9 : (Nat → Nat)) (σ : xSt) : Option (Int32 × xSt) := (xbs 8 t1 (xl (upd rd (t1).toNatClampNeg t0) fun rd51 => fL_areMade_c273 k16 k178 a1 a3 a5 rd51 n9 t9 σ))
def fL_areMade_c236 (k16 : (Int32 → xSt → Option (Int32 × xSt))) (k178 : (Int32 → Int32 → Int32 → (Nat → Int32) → Nat → (Nat → Nat) → xSt → Option (Int32 × xSt))) (a1 : Int32) (a3 : Int32) (a5 : Int32) (rd : (Nat → Int32)) (n9 : Nat) (t9 : (Nat → Nat)) (σ : xSt) : Option (Int32 × xSt) := (if a5 = 7 then (xc2 (fX12_next 12 σ) fun r47 σ48 => (if r47 = 0 then (xc2 (fX12_next 5 σ48) fun r49 σ50 => fL_areMade_c272 k16 k178 a1 a3 a5 (1 + r49) a5 rd n9 t9 σ50) else fL_areMade_c272 k16 k178 a1 a3 a5 0 a5 rd n9 t9 σ48)) else fL_areMade_c273 k16 k178 a1 a3 a5 rd n9 t9 σ)
def fL_areMade_c214 (k16 : (Int32 → xSt → Option (Int32 × xSt))) (k178 : (Int32 → Int32 → Int32 → (Nat → Int32) → Nat → (Nat → Nat) → xSt → Option (Int32 × xSt))) (a1 : Int32) (a3 : Int32) (a5 : Int32) (t0 : Int32) (t1 : Int32) (rd : (Nat → Int32)) (n9 : Nat) (t9 : (Nat → Nat)) (σ : xSt) : Option (Int32 × xSt) := (xbs 8 t1 (xl (upd rd (t1).toNatClampNeg t0) fun rd43 => (if a5 = 4 then (xc2 (fX12_next 90 σ) fun r44 σ45 => (xbs 8 a5 (xl (upd rd43 (a5).toNatClampNeg (1 + r44)) fun rd46 => fL_areMade_c236 k16 k178 a1 a3 a5 rd46 n9 t9 σ45))) else fL_areMade_c236 k16 k178 a1 a3 a5 rd43 n9 t9 σ)))
def fL_areMade_c178 (k16 : (Int32 → xSt → Option (Int32 × xSt))) : Nat → Int32 → Int32 → Int32 → (Nat → Int32) → Nat → (Nat → Nat) → xSt → Option (Int32 × xSt)
  | 0 => fun _ _ _ _ _ _ _ => none
  | n + 1 => fun a1 a3 a5 rd n9 t9 σ => (if 8 ≤ a5 then (xc2 (fL_type n9 t9 σ) fun r28 σ29 => (xcm (fX11_fault σ29) σ29 fun r30 σ31 => (if r30 = (-1) then (xco (fX11_readParts a1 σ31) σ31 fun r32 σ33 => (if r32 = a3 then (xcm (fX11_fault σ33) σ33 fun r34 σ35 => (if r34 = 0 then (xc2 (fX12_next 5000 σ35) fun r36 σ37 => (xl (1 + r36) fun v38 => fL_areMade_c395 k16 xF9 a1 a3 v38 0 0 rd σ37)) else some (0, σ35))) else some (0, σ33))) else some (0, σ31)))) else (xc2 (fX12_next 3 σ) fun r39 σ40 => (if r39 = 0 then fL_areMade_c214 k16 (fL_areMade_c178 k16 n) a1 a3 a5 0 a5 rd n9 t9 σ40 else (xc2 (fX12_next 60 σ40) fun r41 σ42 => fL_areMade_c214 k16 (fL_areMade_c178 k16 n) a1 a3 a5 (1 + r41) a5 rd n9 t9 σ42))))
theorem fL_areMade_c178_s (k16 : (Int32 → xSt → Option (Int32 × xSt))) (n : Nat) (a1 : Int32) (a3 : Int32) (a5 : Int32) (rd : (Nat → Int32)) (n9 : Nat) (t9 : (Nat → Nat)) (σ : xSt) : fL_areMade_c178 k16 (n + 1) a1 a3 a5 rd n9 t9 σ = ((if 8 ≤ a5 then (xc2 (fL_type n9 t9 σ) fun r28 σ29 => (xcm (fX11_fault σ29) σ29 fun r30 σ31 => (if r30 = (-1) then (xco (fX11_readParts a1 σ31) σ31 fun r32 σ33 => (if r32 = a3 then (xcm (fX11_fault σ33) σ33 fun r34 σ35 => (if r34 = 0 then (xc2 (fX12_next 5000 σ35) fun r36 σ37 => (xl (1 + r36) fun v38 => fL_areMade_c395 k16 xF9 a1 a3 v38 0 0 rd σ37)) else some (0, σ35))) else some (0, σ33))) else some (0, σ31)))) else (xc2 (fX12_next 3 σ) fun r39 σ40 => (if r39 = 0 then fL_areMade_c214 k16 (fL_areMade_c178 k16 n) a1 a3 a5 0 a5 rd n9 t9 σ40 else (xc2 (fX12_next 60 σ40) fun r41 σ42 => fL_areMade_c214 k16 (fL_areMade_c178 k16 n) a1 a3 a5 (1 + r41) a5 rd n9 t9 σ42)))) : Option (Int32 × xSt)) := rfl
def fL_areMade_c16 : Nat → Int32 → xSt → Option (Int32 × xSt)
  | 0 => fun _ _ => none
  | n + 1 => fun a1 σ => (if (σ 52 2) ≤ a1 then fL_areMade_c473 xF8 0 σ else (xc2 (fX12_next 30 σ) fun r4 σ5 => (xs σ5 54 4 a1 (1 + r4) fun σ6 => (xr σ6 54 4 a1 fun v7 => (xc2 (fX12_next 40 σ6) fun r8 σ9 => (xs σ9 55 4 a1 (v7 + r8) fun σ10 => (xc2 (fX12_next 16 σ10) fun r11 σ12 => (xs σ12 57 4 a1 r11 fun σ13 => (xc2 (fX12_next 40 σ13) fun r14 σ15 => (xs σ15 56 4 a1 (5 + r14) fun σ16 => (xc2 (fX12_next 60 σ16) fun r17 σ18 => (xr σ18 54 4 a1 fun v19 => (xr σ18 55 4 a1 fun v20 => (xr σ18 57 4 a1 fun v21 => (xco (fX11_addRecipe (50 + r17) v19 v20 100 v21 σ18) σ18 fun r22 σ23 => (if r22 = a1 then (xr σ23 56 4 a1 fun v24 => (xco (fX11_setWait a1 v24 σ23) σ23 fun r25 σ26 => (if r25 = 20 then fL_areMade_c178 (fL_areMade_c16 n) xF9 a1 0 0 (fun _ => 0) 0 (fun _ => 0) σ26 else some (0, σ26)))) else some (0, σ23)))))))))))))))))
theorem fL_areMade_c16_s (n : Nat) (a1 : Int32) (σ : xSt) : fL_areMade_c16 (n + 1) a1 σ = ((if (σ 52 2) ≤ a1 then fL_areMade_c473 xF8 0 σ else (xc2 (fX12_next 30 σ) fun r4 σ5 => (xs σ5 54 4 a1 (1 + r4) fun σ6 => (xr σ6 54 4 a1 fun v7 => (xc2 (fX12_next 40 σ6) fun r8 σ9 => (xs σ9 55 4 a1 (v7 + r8) fun σ10 => (xc2 (fX12_next 16 σ10) fun r11 σ12 => (xs σ12 57 4 a1 r11 fun σ13 => (xc2 (fX12_next 40 σ13) fun r14 σ15 => (xs σ15 56 4 a1 (5 + r14) fun σ16 => (xc2 (fX12_next 60 σ16) fun r17 σ18 => (xr σ18 54 4 a1 fun v19 => (xr σ18 55 4 a1 fun v20 => (xr σ18 57 4 a1 fun v21 => (xco (fX11_addRecipe (50 + r17) v19 v20 100 v21 σ18) σ18 fun r22 σ23 => (if r22 = a1 then (xr σ23 56 4 a1 fun v24 => (xco (fX11_setWait a1 v24 σ23) σ23 fun r25 σ26 => (if r25 = 20 then fL_areMade_c178 (fL_areMade_c16 n) xF9 a1 0 0 (fun _ => 0) 0 (fun _ => 0) σ26 else some (0, σ26)))) else some (0, σ23))))))))))))))))) : Option (Int32 × xSt)) := rfl
def fL_areMade (σ : xSt) : Option (Int32 × xSt) := (xc2 (fX12_next 4 σ) fun r1 σ2 => (xp σ2 52 2 (1 + r1) fun σ3 => fL_areMade_c16 xF5 0 σ3))
abbrev rmL_areMade : Room := { frames := 10, cells := 536, slots := 15096, locals := 260 }
set_option maxRecDepth 100000 in
set_option maxHeartbeats 16000000 in
theorem mL_areMade {l : Launch} (hl0 : l.stackTraces = false) {E : xE} (hE : xLE E) (σ : xSt) (o1 : Int32) (o2 : xSt) (hf : fL_areMade σ = some (o1, o2)) : xLi l yL_areMade wsL_areMade rmL_areMade E [.ref (E.a 52)] σ o1 o2 536 15096 := by
  unfold fL_areMade at hf
  refine xLi_of (cc := cL_areMade) (maxL := 9) (ret := (some .boolean)) (by decide) rfl (Nat.le_of_ble_eq_true rfl) ?_
  intro p e s m args below meth c A ls ⟨hx, hb, hr, hml, hown, hts, hlk⟩ hA hGL hw hl
  have hG := hGL.1
  have hown : s.vm.findClass RL = some m.cls := hown
  have eF5 : xF5 = 5 := rfl
  have eF8 : xF8 = 8 := rfl
  have eF9 : xF9 = 9 := rfl
  have hl : lv_has ls 9 [(0, .ref (E.a 52))] := hl
  have hk34 := hts (.fieldLink RL 34 "OvenRoundLaw" "d" "LOvenRoundLaw$Draws;") (by decide +kernel)
  have hiL : ∀ w ∈ wsL0, w ∈ wsL_areMade := by decide +kernel
  have hk62 := hts (.fieldLink RL 62 "OvenRoundLaw" "recipes" "I") (by decide +kernel)
  have hk16 := hts (.fieldLink RL 16 "OvenRoundLaw" "low" "[I") (by decide +kernel)
  have hk20 := hts (.fieldLink RL 20 "OvenRoundLaw" "high" "[I") (by decide +kernel)
  have hk26 := hts (.fieldLink RL 26 "OvenRoundLaw" "allergens" "[I") (by decide +kernel)
  have hk23 := hts (.fieldLink RL 23 "OvenRoundLaw" "wait" "[I") (by decide +kernel)
  have hk10 := hts (.fieldLink RL 10 "OvenRoundLaw" "o" "LOvenRound;") (by decide +kernel)
  have hiJ4 : ∀ w ∈ wsJ40, w ∈ wsL_areMade := by decide +kernel
  have h473 : ∀ (n : Nat) (a1 : Int32) (σ : xSt) (H : Heap) (locs : List Loc) (ls : Array Slot) (nc ns : Nat), xw E A s.heap s σ H locs → lv_has ls 9 [(0, .ref (E.a 52)), (1, .int a1)] → fL_areMade_c473 n a1 σ = some (o1, o2) → nc + (17 + 3 * n) ≤ 536 → ns + (102 + 18 * n) ≤ 15096 → W p l e rmL_areMade s m args below meth c H locs nc ns (MQ below (xQi E A o1 o2) args s 536 15096 A) (F0 m 473 ls []) := by
    intro n473
    induction n473 with
    | zero => intro a1 σ H locs ls nc ns hw hl hf hnc hns; exact nomatch hf
    | succ n473 ih473 =>
      intro a1 σ H locs ls nc ns hw hl hf hnc hns
      rw [fL_areMade_c473_s] at hf
      refine lv_iload_n hx hb dL_areMade_473 rfl (lv_at hl 1 rfl) ?_
      refine lv_bipush (v := 7) hx hb dL_areMade_474 (by decide) ?_
      refine lv_icmp_ge (tgt := 504) hx hb dL_areMade_476 (by decide) (fun c476 => ?_) (fun c476 => ?_)
      · replace hf := xif_pos c476 hf
        refine lv_aload_n hx hb dL_areMade_504 rfl (lv_at hl 0 rfl) ?_
        obtain ⟨r98, σ99, hcl, hf⟩ := xc2_f hf
        refine x_callLi (va_runV (As := []) (rest := []) ⟨hx, hb, hml, hown, hts⟩ (mL_isKept hl0 hE σ r98 σ99 hcl H.size) (cwV 0 hts gL_areMade_L_isKept rfl rfl rfl (by decide +kernel) ⟨Nat.le_of_ble_eq_true rfl, Nat.le_of_ble_eq_true rfl⟩) (x_preLV _ hw hA hGL (cL52 hE) rfl) rfl rfl hl.1 rfl (lv_room (Nat.le_of_ble_eq_true rfl)) dL_areMade_505 ⟨show nc + 17 ≤ 536 by omega, show ns + 102 ≤ 15096 by omega⟩) hw hA (fun H locs hw => ?_)
        clear hcl
        exact x_Lzret hx hb hr hlk hw hf (show (nc + 17) ≤ 536 by omega) (show (ns + 102) ≤ 15096 by omega) dL_areMade_508
      · replace hf := xif_neg c476 hf
        refine lv_aload_n hx hb dL_areMade_479 rfl (lv_at hl 0 rfl) ?_
        refine x_getr hx hb hw (cL52 hE) (own := RL) (ref := RL) (C := RL) (T := TL) (N := 10) hts hiL hown rfl 0 (by decide) hk10 (fun _ h9 => h9) rfl dL_areMade_480 ?_
        refine lv_iload_n hx hb dL_areMade_483 rfl (lv_at hl 1 rfl) ?_
        refine lv_sipush (v := 20000) hx hb dL_areMade_484 (by decide) ?_
        obtain ⟨r100, τ9, hcl, hf⟩ := xco_g hf
        refine x_tcallo (vx_runV (As := [.int a1, .int 20000]) (rest := []) ⟨hx, hb, hml, hown, hts⟩ (mX11_receive hl0 (E := xCut E σ) rfl a1 20000 σ (.inl r100) τ9 hcl H.size) (cwV 2 hts gL_areMade_X11_receive rfl rfl rfl (by decide +kernel) ⟨Nat.le_of_ble_eq_true rfl, Nat.le_of_ble_eq_true rfl⟩) (x_preV _ (xw_cut hE hw) hA hG (cX0 (E := xCut E σ) rfl) rfl) rfl rfl hl.1 rfl (lv_room (Nat.le_of_ble_eq_true rfl)) dL_areMade_487 ⟨show nc + 3 ≤ 536 by omega, show ns + 18 ≤ 15096 by omega⟩) (xw_cut hE hw) hA (fun H locs hw => ?_)
        obtain ⟨σ101, eρ, hw⟩ := xw_unc2 hE hw
        replace hf := hf σ101 eρ
        clear eρ hcl
        refine lv_sipush (v := 20000) hx hb dL_areMade_490 (by decide) ?_
        refine lv_icmp_eq (tgt := 498) hx hb dL_areMade_493 (by decide) (fun c493 => ?_) (fun c493 => ?_)
        · replace hf := xif_pos c493 hf
          obtain ⟨v102, ex⟩ : ∃ y : Int32, y = (a1 + 1) := ⟨_, rfl⟩
          replace hf := xl_f hf v102 ex
          refine lv_iinc (v := v102) (lv' := [(1, .int v102), (0, .ref (E.a 52))]) hx hb dL_areMade_498 hl (k := 1) rfl (by rw [ex]; rfl) (by decide) rfl (fun ls hl => ?_)
          clear ex
          refine lv_goto (tgt := 473) hx hb dL_areMade_501 (by decide) ?_
          exact ih473 v102 σ101 _ _ _ (nc + 3) (ns + 18) hw (lv_sub hl [1, 0] rfl) hf (by omega) (by omega)
        · replace hf := xif_neg c493 hf
          refine lv_iconst (v := 0) hx hb dL_areMade_496 (by decide) ?_
          exact x_Lzretc hx hb hr hlk hw (by decide) hf (show (nc + 3) ≤ 536 by omega) (show (ns + 18) ≤ 15096 by omega) dL_areMade_497
  have h16 : ∀ (n : Nat) (a1 : Int32) (σ : xSt) (H : Heap) (locs : List Loc) (ls : Array Slot) (nc ns : Nat), xw E A s.heap s σ H locs → lv_has ls 9 [(0, .ref (E.a 52)), (1, .int a1)] → fL_areMade_c16 n a1 σ = some (o1, o2) → nc + (41 + 99 * n) ≤ 536 → ns + (246 + 2970 * n) ≤ 15096 → W p l e rmL_areMade s m args below meth c H locs nc ns (MQ below (xQi E A o1 o2) args s 536 15096 A) (F0 m 16 ls []) := by
    intro n16
    induction n16 with
    | zero => intro a1 σ H locs ls nc ns hw hl hf hnc hns; exact nomatch hf
    | succ n16 ih16 =>
      have h395 : ∀ (n : Nat) (a1 : Int32) (a3 : Int32) (a5 : Int32) (a6 : Int32) (a7 : Int32) (rd : (Nat → Int32)) (σ : xSt) (H : Heap) (locs : List Loc) (ls : Array Slot) (nc ns : Nat) (qp : Nat), xw (xPlus E [(qp, xInts E.cA 8 rd)]) A s.heap s σ H locs → lv_has ls 9 [(0, .ref (E.a 52)), (1, .int a1), (2, .ref qp), (3, .int a3), (5, .int a5), (6, .int a6), (7, .int a7)] → fL_areMade_c395 (fL_areMade_c16 n16) n a1 a3 a5 a6 a7 rd σ = some (o1, o2) → nc + (41 + 99 * n16 + 4 * n) ≤ 536 → ns + (246 + 2970 * n16 + 24 * n) ≤ 15096 → W p l e rmL_areMade s m args below meth c H locs nc ns (MQ below (xQi E A o1 o2) args s 536 15096 A) (F0 m 395 ls []) := by
        intro n395
        induction n395 with
        | zero => intro a1 a3 a5 a6 a7 rd σ H locs ls nc ns qp hw hl hf hnc hns; exact nomatch hf
        | succ n395 ih395 =>
          intro a1 a3 a5 a6 a7 rd σ H locs ls nc ns qp hw hl hf hnc hns
          rw [fL_areMade_c395_s] at hf
          refine lv_iload hx hb dL_areMade_395 (lv_at hl 6 rfl) ?_
          refine lv_bipush (v := 8) hx hb dL_areMade_397 (by decide) ?_
          refine lv_icmp_ge (tgt := 456) hx hb dL_areMade_399 (by decide) (fun c399 => ?_) (fun c399 => ?_)
          · replace hf := xif_pos c399 hf
            refine lv_iload hx hb dL_areMade_456 (lv_at hl 5 rfl) ?_
            refine lv_iload hx hb dL_areMade_458 (lv_at hl 4 rfl) ?_
            refine lv_icmp_eq (tgt := 465) hx hb dL_areMade_460 (by decide) (fun c460 => ?_) (fun c460 => ?_)
            · replace hf := xif_pos c460 hf
              obtain ⟨v92, ex⟩ : ∃ y : Int32, y = (a1 + 1) := ⟨_, rfl⟩
              replace hf := xl_f hf v92 ex
              refine lv_iinc (v := v92) (lv' := [(1, .int v92), (0, .ref (E.a 52)), (2, .ref qp), (3, .int a3), (5, .int a5), (6, .int a6), (7, .int a7)]) hx hb dL_areMade_465 hl (k := 1) rfl (by rw [ex]; rfl) (by decide) rfl (fun ls hl => ?_)
              clear ex
              refine lv_goto (tgt := 16) hx hb dL_areMade_468 (by decide) ?_
              exact ih16 v92 σ _ _ _ nc ns (xw_drop hw) (lv_sub hl [1, 0] rfl) hf (by omega) (by omega)
            · replace hf := xif_neg c460 hf
              refine lv_iconst (v := 0) hx hb dL_areMade_463 (by decide) ?_
              exact x_Lzretc hx hb hr hlk (xw_drop hw) (by decide) hf (show nc ≤ 536 by omega) (show ns ≤ 15096 by omega) dL_areMade_464
          · replace hf := xif_neg c399 hf
            refine lv_aload_n hx hb dL_areMade_402 rfl (lv_at hl 0 rfl) ?_
            refine x_getr hx hb hw (cL52 (xPlus_LE hE)) (own := RL) (ref := RL) (C := RL) (T := TL) (N := 10) hts hiL hown rfl 0 (by decide) hk10 (fun _ h9 => h9) rfl dL_areMade_403 ?_
            refine lv_iload_n hx hb dL_areMade_406 rfl (lv_at hl 1 rfl) ?_
            refine lv_iload hx hb dL_areMade_407 (lv_at hl 4 rfl) ?_
            refine lv_iload hx hb dL_areMade_409 (lv_at hl 6 rfl) ?_
            obtain ⟨r93, τ9, hcl, hf⟩ := xco_g hf
            refine x_tcallo (vx_runV (As := [.int a1, .int a5, .int a7]) (rest := []) ⟨hx, hb, hml, hown, hts⟩ (mX11_amount hl0 (E := xCut (xPlus E [(qp, xInts E.cA 8 rd)]) σ) rfl a1 a5 a7 σ (.inl r93) τ9 hcl H.size) (cwV 3 hts gL_areMade_X11_amount rfl rfl rfl (by decide +kernel) ⟨Nat.le_of_ble_eq_true rfl, Nat.le_of_ble_eq_true rfl⟩) (x_preV _ (xw_cut (xPlus_LE hE) hw) hA hG (cX0 (E := xCut (xPlus E [(qp, xInts E.cA 8 rd)]) σ) rfl) rfl) rfl rfl hl.1 rfl (lv_room (Nat.le_of_ble_eq_true rfl)) dL_areMade_411 ⟨show nc + 4 ≤ 536 by omega, show ns + 24 ≤ 15096 by omega⟩) (xw_cut (xPlus_LE hE) hw) hA (fun H locs hw => ?_)
            obtain ⟨σ94, eρ, hw⟩ := xw_unc2 (xPlus_LE hE) hw
            replace hf := hf σ94 eρ
            clear eρ hcl
            refine lv_istore (lv' := [(8, .int r93), (0, .ref (E.a 52)), (1, .int a1), (2, .ref qp), (3, .int a3), (5, .int a5), (6, .int a6), (7, .int a7)]) hx hb dL_areMade_414 hl (by decide) rfl (fun ls hl => ?_)
            refine lv_iload hx hb dL_areMade_416 (lv_at hl 0 rfl) ?_
            refine lv_i2l hx hb dL_areMade_418 rfl ?_
            refine lv_iload_n hx hb dL_areMade_419 rfl (lv_at hl 4 rfl) ?_
            refine lv_i2l hx hb dL_areMade_420 rfl ?_
            refine lv_lmul hx hb dL_areMade_421 ?_
            refine lv_iload hx hb dL_areMade_422 (lv_at hl 5 rfl) ?_
            refine lv_i2l hx hb dL_areMade_424 rfl ?_
            refine lv_aload_n hx hb dL_areMade_425 rfl (lv_at hl 3 rfl) ?_
            refine lv_iload hx hb dL_areMade_426 (lv_at hl 7 rfl) ?_
            obtain ⟨hin, hf⟩ := xrs_f hf
            refine x_rld hx hb hw List.mem_cons_self hin dL_areMade_428 ?_
            refine lv_topi (fun v95 ex => ?_)
            replace hf := hf v95 ex
            clear ex hin
            refine lv_i2l hx hb dL_areMade_429 rfl ?_
            refine lv_lmul hx hb dL_areMade_430 ?_
            refine lv_lsub hx hb dL_areMade_431 ?_
            refine va_mabs_long hx hb (hml.trans hl.1.symm) hown (hts (.methodLink RL 109 Lib.MathLoose.abs_long.x) (by decide +kernel)) (hts (.static Lib.MathLoose.abs_long.x) (by decide +kernel)) (hts (.initialized "java/lang/Math") (by decide +kernel)) (hts (.code Lib.MathLoose.abs_long.x Lib.MathLoose.abs_long.code 2 (some .long)) (by decide +kernel)) (Nat.le_of_ble_eq_true rfl) (Nat.le_of_ble_eq_true rfl) (show (nc + 4) ≤ 536 by omega) (show (ns + 24) ≤ 15096 by omega) dL_areMade_432 ?_
            refine lv_iload_n hx hb dL_areMade_435 rfl (lv_at hl 4 rfl) ?_
            refine lv_i2l hx hb dL_areMade_436 rfl ?_
            refine W.lcmp hx hb dL_areMade_437 ?_
            refine lv_if_lt (tgt := 443) hx hb dL_areMade_438 (by decide) (fun c438 => ?_) (fun c438 => ?_)
            · replace hf := xif_pos c438 hf
              refine lv_iload hx hb dL_areMade_443 (lv_at hl 6 rfl) ?_
              refine lv_iload hx hb dL_areMade_445 (lv_at hl 0 rfl) ?_
              refine lv_iadd hx hb dL_areMade_447 ?_
              refine lv_topi (fun v96 ex => ?_)
              replace hf := xl_f hf v96 ex
              clear ex
              refine lv_istore (lv' := [(6, .int v96), (8, .int r93), (0, .ref (E.a 52)), (1, .int a1), (2, .ref qp), (3, .int a3), (5, .int a5), (7, .int a7)]) hx hb dL_areMade_448 hl (by decide) rfl (fun ls hl => ?_)
              obtain ⟨v97, ex⟩ : ∃ y : Int32, y = (a7 + 1) := ⟨_, rfl⟩
              replace hf := xl_f hf v97 ex
              refine lv_iinc (v := v97) (lv' := [(7, .int v97), (6, .int v96), (8, .int r93), (0, .ref (E.a 52)), (1, .int a1), (2, .ref qp), (3, .int a3), (5, .int a5)]) hx hb dL_areMade_450 hl (k := 7) rfl (by rw [ex]; rfl) (by decide) rfl (fun ls hl => ?_)
              clear ex
              refine lv_goto (tgt := 395) hx hb dL_areMade_453 (by decide) ?_
              exact ih395 a1 a3 a5 v96 v97 rd σ94 _ _ _ (nc + 4) (ns + 24) _ hw (lv_sub hl [3, 4, 5, 6, 7, 1, 0] rfl) hf (by omega) (by omega)
            · replace hf := xif_neg c438 hf
              refine lv_iconst (v := 0) hx hb dL_areMade_441 (by decide) ?_
              exact x_Lzretc hx hb hr hlk (xw_drop hw) (by decide) hf (show (nc + 4) ≤ 536 by omega) (show (ns + 24) ≤ 15096 by omega) dL_areMade_442
      have h178 : ∀ (n : Nat) (a1 : Int32) (a3 : Int32) (a5 : Int32) (rd : (Nat → Int32)) (n9 : Nat) (t9 : (Nat → Nat)) (σ : xSt) (H : Heap) (locs : List Loc) (ls : Array Slot) (nc ns : Nat) (qp h : Nat) (X1 : va_W), sbP h (E.g.2.2 21) n9 t9 X1 → xw (xPlus (xPlus E [(qp, xInts E.cA 8 rd)]) X1) A s.heap s σ H locs → lv_has ls 9 [(0, .ref (E.a 52)), (1, .int a1), (2, .ref qp), (3, .int a3), (4, .ref h), (5, .int a5)] → fL_areMade_c178 (fL_areMade_c16 n16) n a1 a3 a5 rd n9 t9 σ = some (o1, o2) → nc + (97 + 99 * n16 + 4 * n) ≤ 536 → ns + (644 + 2970 * n16 + 280 * n) ≤ 15096 → W p l e rmL_areMade s m args below meth c H locs nc ns (MQ below (xQi E A o1 o2) args s 536 15096 A) (F0 m 178 ls []) := by
        intro n178
        induction n178 with
        | zero => intro a1 a3 a5 rd n9 t9 σ H locs ls nc ns qp h X1 hsb hw hl hf hnc hns; exact nomatch hf
        | succ n178 ih178 =>
          have h273 : ∀ (a1 : Int32) (a3 : Int32) (a5 : Int32) (rd : (Nat → Int32)) (n9 : Nat) (t9 : (Nat → Nat)) (σ : xSt) (H : Heap) (locs : List Loc) (ls : Array Slot) (nc ns : Nat) (qp h : Nat) (X1 : va_W), sbP h (E.g.2.2 21) n9 t9 X1 → xw (xPlus (xPlus E [(qp, xInts E.cA 8 rd)]) X1) A s.heap s σ H locs → lv_has ls 9 [(0, .ref (E.a 52)), (1, .int a1), (2, .ref qp), (3, .int a3), (4, .ref h), (5, .int a5)] → fL_areMade_c273 (fL_areMade_c16 n16) (fL_areMade_c178 (fL_areMade_c16 n16) n178) a1 a3 a5 rd n9 t9 σ = some (o1, o2) → nc + (101 + 99 * n16 + 4 * n178) ≤ 536 → ns + (924 + 2970 * n16 + 280 * n178) ≤ 15096 → W p l e rmL_areMade s m args below meth c H locs nc ns (MQ below (xQi E A o1 o2) args s 536 15096 A) (F0 m 273 ls []) := by
            intro a1 a3 a5 rd n9 t9 σ H locs ls nc ns qp h X1 hsb hw hl hf hnc hns
            unfold fL_areMade_c273 at hf
            refine lv_iload_n hx hb dL_areMade_273 rfl (lv_at hl 3 rfl) ?_
            refine lv_aload_n hx hb dL_areMade_274 rfl (lv_at hl 2 rfl) ?_
            refine lv_iload hx hb dL_areMade_275 (lv_at hl 5 rfl) ?_
            obtain ⟨hin, hf⟩ := xrs_f hf
            refine x_rld hx hb (E := E) (X := [(qp, xInts E.cA 8 rd)] ++ X1) (by rw [← xPlus_plus]; exact hw) (List.mem_append_left _ List.mem_cons_self) hin dL_areMade_277 ?_
            refine lv_topi (fun v52 ex => ?_)
            replace hf := hf v52 ex
            clear ex hin
            refine lv_iadd hx hb dL_areMade_278 ?_
            refine lv_topi (fun v53 ex => ?_)
            replace hf := xl_f hf v53 ex
            clear ex
            refine lv_istore_n (lv' := [(3, .int v53), (0, .ref (E.a 52)), (1, .int a1), (2, .ref qp), (4, .ref h), (5, .int a5)]) hx hb dL_areMade_279 rfl hl (by decide) rfl (fun ls hl => ?_)
            refine lv_aload_n hx hb dL_areMade_280 rfl (lv_at hl 3 rfl) ?_
            refine lv_iload hx hb dL_areMade_281 (lv_at hl 5 rfl) ?_
            obtain ⟨hin, hf⟩ := xrs_f hf
            refine x_rld hx hb (E := E) (X := [(qp, xInts E.cA 8 rd)] ++ X1) (by rw [← xPlus_plus]; exact hw) (List.mem_append_left _ List.mem_cons_self) hin dL_areMade_283 ?_
            refine lv_topi (fun v54 ex => ?_)
            replace hf := hf v54 ex
            clear ex hin
            refine lv_if_le (tgt := 325) hx hb dL_areMade_284 (by decide) (fun c284 => ?_) (fun c284 => ?_)
            · replace hf := xif_pos c284 hf
              obtain ⟨v55, ex⟩ : ∃ y : Int32, y = (a5 + 1) := ⟨_, rfl⟩
              replace hf := xl_f hf v55 ex
              refine lv_iinc (v := v55) (lv' := [(5, .int v55), (3, .int v53), (0, .ref (E.a 52)), (1, .int a1), (2, .ref qp), (4, .ref h)]) hx hb dL_areMade_325 hl (k := 5) rfl (by rw [ex]; rfl) (by decide) rfl (fun ls hl => ?_)
              clear ex
              refine lv_goto (tgt := 178) hx hb dL_areMade_328 (by decide) ?_
              exact ih178 a1 v53 v55 rd n9 t9 σ _ _ _ nc ns _ _ _ hsb hw (lv_sub hl [2, 3, 4, 1, 5, 0] rfl) hf (by omega) (by omega)
            · replace hf := xif_neg c284 hf
              refine lv_aload hx hb dL_areMade_287 (lv_at hl 4 rfl) ?_
              refine lv_aload hx hb dL_areMade_289 (lv_at hl 4 rfl) ?_
              obtain ⟨fs9, hq9⟩ := sbP_at hsb
              refine x_callLi (va_runV (As := []) (rest := [.ref h]) ⟨hx, hb, hml, hown, hts⟩ (mSB_length (E := (xPlus E [(qp, xInts E.cA 8 rd)])) hsb σ H.size) (cwV 0 hts gL_areMade_J4_length_8abf5 rfl rfl rfl (by decide +kernel) ⟨Nat.le_of_ble_eq_true rfl, Nat.le_of_ble_eq_true rfl⟩) (x_preLX _ hw hA hGL (q := 0) hq9 rfl) rfl rfl hl.1 rfl (lv_room (Nat.le_of_ble_eq_true rfl)) dL_areMade_291 ⟨show nc + 0 ≤ 536 by omega, show ns + 0 ≤ 15096 by omega⟩) hw hA (fun H locs hw => ?_)
              clear hq9
              refine lv_if_ne (tgt := 302) hx hb dL_areMade_294 (by decide) (fun c294 => ?_) (fun c294 => ?_)
              · replace hf := xif_neg c294 hf
                refine va_ldcS hx hb hown hGL.2.2.2.2.1.2 dL_areMade_302 ?_
                obtain ⟨h48, hf⟩ := xle_e hf
                obtain ⟨fs9, hq9⟩ := sbP_at hsb
                refine x_callJr (va_runV (As := [.ref (E.g.2.2 (12 + 1))]) (rest := []) ⟨hx, hb, hml, hown, hts⟩ (mSB_str (E := (xPlus E [(qp, xInts E.cA 8 rd)])) hsb 1 (by decide) h48 σ H.size) (cwV 1 hts gL_areMade_J4_append_15ec4 rfl rfl rfl (by decide +kernel) ⟨Nat.le_of_ble_eq_true rfl, Nat.le_of_ble_eq_true rfl⟩) (x_preLX _ hw hA hGL (q := 0) hq9 rfl) rfl rfl hl.1 rfl (lv_room (Nat.le_of_ble_eq_true rfl)) dL_areMade_304 ⟨show (nc + 0) + 1 ≤ 536 by omega, show (ns + 0) + 70 ≤ 15096 by omega⟩) hw hA (fun X58 r59 H locs hX hw => ?_)
                clear hq9 hsb
                obtain ⟨er, hsb⟩ := hX
                rw [er]
                clear er
                obtain ⟨t57, ex⟩ : ∃ tz : Nat → Nat, tz = sb_cat t9 n9 (skT 1) := ⟨_, rfl⟩
                replace hf := xl_f hf t57 ex
                rw [← ex] at hsb
                clear ex
                obtain ⟨n56, ex⟩ : ∃ nz : Nat, nz = n9 + skW 1 := ⟨_, rfl⟩
                replace hf := xl_f hf n56 ex
                rw [← ex] at hsb
                clear ex
                refine lv_iload hx hb dL_areMade_307 (lv_at hl 5 rfl) ?_
                obtain ⟨h48, hf⟩ := xle_e hf
                obtain ⟨hx0, hx1, hf⟩ := x99_e hf
                obtain ⟨fs9, hq9⟩ := sbP_at hsb
                refine x_callJr (va_runV (As := [.int a5]) (rest := []) ⟨hx, hb, hml, hown, hts⟩ (mSB_int (E := (xPlus E [(qp, xInts E.cA 8 rd)])) hsb hx0 hx1 h48 σ H.size) (cwV 1 hts gL_areMade_J4_append_bf812 rfl rfl rfl (by decide +kernel) ⟨Nat.le_of_ble_eq_true rfl, Nat.le_of_ble_eq_true rfl⟩) (x_preLX _ hw hA hGL (q := 0) hq9 rfl) rfl rfl hl.1 rfl (lv_room (Nat.le_of_ble_eq_true rfl)) dL_areMade_309 ⟨show ((nc + 0) + 1) + 1 ≤ 536 by omega, show ((ns + 0) + 70) + 70 ≤ 15096 by omega⟩) hw hA (fun X62 r63 H locs hX hw => ?_)
                clear hq9 hsb
                obtain ⟨er, hsb⟩ := hX
                rw [er]
                clear er
                obtain ⟨t61, ex⟩ : ∃ tz : Nat → Nat, tz = sb_cat t57 n56 (sb_dec (a5).toNatClampNeg) := ⟨_, rfl⟩
                replace hf := xl_f hf t61 ex
                rw [← ex] at hsb
                clear ex
                obtain ⟨n60, ex⟩ : ∃ nz : Nat, nz = n56 + sb_dg (a5).toNatClampNeg := ⟨_, rfl⟩
                replace hf := xl_f hf n60 ex
                rw [← ex] at hsb
                clear ex
                refine lv_bipush (v := 58) hx hb dL_areMade_312 (by decide) ?_
                obtain ⟨h48, hf⟩ := xle_e hf
                obtain ⟨fs9, hq9⟩ := sbP_at hsb
                refine x_callJr (va_runV (As := [.int 58]) (rest := []) ⟨hx, hb, hml, hown, hts⟩ (mSB_chr (E := (xPlus E [(qp, xInts E.cA 8 rd)])) hsb 58 (by decide) h48 σ H.size) (cwV 1 hts gL_areMade_J4_append_cf468 rfl rfl rfl (by decide +kernel) ⟨Nat.le_of_ble_eq_true rfl, Nat.le_of_ble_eq_true rfl⟩) (x_preLX _ hw hA hGL (q := 0) hq9 rfl) rfl rfl hl.1 rfl (lv_room (Nat.le_of_ble_eq_true rfl)) dL_areMade_314 ⟨show (((nc + 0) + 1) + 1) + 1 ≤ 536 by omega, show (((ns + 0) + 70) + 70) + 70 ≤ 15096 by omega⟩) hw hA (fun X66 r67 H locs hX hw => ?_)
                clear hq9 hsb
                obtain ⟨er, hsb⟩ := hX
                rw [er]
                clear er
                obtain ⟨t65, ex⟩ : ∃ tz : Nat → Nat, tz = sb_cat t61 n60 (fun _ => 58) := ⟨_, rfl⟩
                replace hf := xl_f hf t65 ex
                rw [← ex] at hsb
                clear ex
                obtain ⟨n64, ex⟩ : ∃ nz : Nat, nz = n60 + 1 := ⟨_, rfl⟩
                replace hf := xl_f hf n64 ex
                rw [← ex] at hsb
                clear ex
                refine lv_aload_n hx hb dL_areMade_317 rfl (lv_at hl 3 rfl) ?_
                refine lv_iload hx hb dL_areMade_318 (lv_at hl 5 rfl) ?_
                obtain ⟨hin, hf⟩ := xrs_f hf
                refine x_rld hx hb (E := E) (X := [(qp, xInts E.cA 8 rd)] ++ X66) (by rw [← xPlus_plus]; exact hw) (List.mem_append_left _ List.mem_cons_self) hin dL_areMade_320 ?_
                refine lv_topi (fun v68 ex => ?_)
                replace hf := hf v68 ex
                clear ex hin
                obtain ⟨h48, hf⟩ := xle_e hf
                obtain ⟨hx0, hx1, hf⟩ := x99_e hf
                obtain ⟨fs9, hq9⟩ := sbP_at hsb
                refine x_callJr (va_runV (As := [.int v68]) (rest := []) ⟨hx, hb, hml, hown, hts⟩ (mSB_int (E := (xPlus E [(qp, xInts E.cA 8 rd)])) hsb hx0 hx1 h48 σ H.size) (cwV 1 hts gL_areMade_J4_append_bf812 rfl rfl rfl (by decide +kernel) ⟨Nat.le_of_ble_eq_true rfl, Nat.le_of_ble_eq_true rfl⟩) (x_preLX _ hw hA hGL (q := 0) hq9 rfl) rfl rfl hl.1 rfl (lv_room (Nat.le_of_ble_eq_true rfl)) dL_areMade_321 ⟨show ((((nc + 0) + 1) + 1) + 1) + 1 ≤ 536 by omega, show ((((ns + 0) + 70) + 70) + 70) + 70 ≤ 15096 by omega⟩) hw hA (fun X71 r72 H locs hX hw => ?_)
                clear hq9 hsb
                obtain ⟨er, hsb⟩ := hX
                rw [er]
                clear er
                obtain ⟨t70, ex⟩ : ∃ tz : Nat → Nat, tz = sb_cat t65 n64 (sb_dec (v68).toNatClampNeg) := ⟨_, rfl⟩
                replace hf := xl_f hf t70 ex
                rw [← ex] at hsb
                clear ex
                obtain ⟨n69, ex⟩ : ∃ nz : Nat, nz = n64 + sb_dg (v68).toNatClampNeg := ⟨_, rfl⟩
                replace hf := xl_f hf n69 ex
                rw [← ex] at hsb
                clear ex
                refine lv_pop hx hb dL_areMade_324 rfl ?_
                obtain ⟨v73, ex⟩ : ∃ y : Int32, y = (a5 + 1) := ⟨_, rfl⟩
                replace hf := xl_f hf v73 ex
                refine lv_iinc (v := v73) (lv' := [(5, .int v73), (3, .int v53), (0, .ref (E.a 52)), (1, .int a1), (2, .ref qp), (4, .ref h)]) hx hb dL_areMade_325 hl (k := 5) rfl (by rw [ex]; rfl) (by decide) rfl (fun ls hl => ?_)
                clear ex
                refine lv_goto (tgt := 178) hx hb dL_areMade_328 (by decide) ?_
                exact ih178 a1 v53 v73 rd n69 t70 σ _ _ _ (((((nc + 0) + 1) + 1) + 1) + 1) (((((ns + 0) + 70) + 70) + 70) + 70) _ _ _ hsb hw (lv_sub hl [2, 3, 4, 1, 5, 0] rfl) hf (by omega) (by omega)
              · replace hf := xif_pos c294 hf
                refine va_ldcS hx hb hown hGL.2.2.2.2.1.1 dL_areMade_297 ?_
                refine lv_goto (tgt := 304) hx hb dL_areMade_299 (by decide) ?_
                obtain ⟨h48, hf⟩ := xle_e hf
                obtain ⟨fs9, hq9⟩ := sbP_at hsb
                refine x_callJr (va_runV (As := [.ref (E.g.2.2 (12 + 0))]) (rest := []) ⟨hx, hb, hml, hown, hts⟩ (mSB_str (E := (xPlus E [(qp, xInts E.cA 8 rd)])) hsb 0 (by decide) h48 σ H.size) (cwV 1 hts gL_areMade_J4_append_15ec4 rfl rfl rfl (by decide +kernel) ⟨Nat.le_of_ble_eq_true rfl, Nat.le_of_ble_eq_true rfl⟩) (x_preLX _ hw hA hGL (q := 0) hq9 rfl) rfl rfl hl.1 rfl (lv_room (Nat.le_of_ble_eq_true rfl)) dL_areMade_304 ⟨show (nc + 0) + 1 ≤ 536 by omega, show (ns + 0) + 70 ≤ 15096 by omega⟩) hw hA (fun X76 r77 H locs hX hw => ?_)
                clear hq9 hsb
                obtain ⟨er, hsb⟩ := hX
                rw [er]
                clear er
                obtain ⟨t75, ex⟩ : ∃ tz : Nat → Nat, tz = sb_cat t9 n9 (skT 0) := ⟨_, rfl⟩
                replace hf := xl_f hf t75 ex
                rw [← ex] at hsb
                clear ex
                obtain ⟨n74, ex⟩ : ∃ nz : Nat, nz = n9 + skW 0 := ⟨_, rfl⟩
                replace hf := xl_f hf n74 ex
                rw [← ex] at hsb
                clear ex
                refine lv_iload hx hb dL_areMade_307 (lv_at hl 5 rfl) ?_
                obtain ⟨h48, hf⟩ := xle_e hf
                obtain ⟨hx0, hx1, hf⟩ := x99_e hf
                obtain ⟨fs9, hq9⟩ := sbP_at hsb
                refine x_callJr (va_runV (As := [.int a5]) (rest := []) ⟨hx, hb, hml, hown, hts⟩ (mSB_int (E := (xPlus E [(qp, xInts E.cA 8 rd)])) hsb hx0 hx1 h48 σ H.size) (cwV 1 hts gL_areMade_J4_append_bf812 rfl rfl rfl (by decide +kernel) ⟨Nat.le_of_ble_eq_true rfl, Nat.le_of_ble_eq_true rfl⟩) (x_preLX _ hw hA hGL (q := 0) hq9 rfl) rfl rfl hl.1 rfl (lv_room (Nat.le_of_ble_eq_true rfl)) dL_areMade_309 ⟨show ((nc + 0) + 1) + 1 ≤ 536 by omega, show ((ns + 0) + 70) + 70 ≤ 15096 by omega⟩) hw hA (fun X80 r81 H locs hX hw => ?_)
                clear hq9 hsb
                obtain ⟨er, hsb⟩ := hX
                rw [er]
                clear er
                obtain ⟨t79, ex⟩ : ∃ tz : Nat → Nat, tz = sb_cat t75 n74 (sb_dec (a5).toNatClampNeg) := ⟨_, rfl⟩
                replace hf := xl_f hf t79 ex
                rw [← ex] at hsb
                clear ex
                obtain ⟨n78, ex⟩ : ∃ nz : Nat, nz = n74 + sb_dg (a5).toNatClampNeg := ⟨_, rfl⟩
                replace hf := xl_f hf n78 ex
                rw [← ex] at hsb
                clear ex
                refine lv_bipush (v := 58) hx hb dL_areMade_312 (by decide) ?_
                obtain ⟨h48, hf⟩ := xle_e hf
                obtain ⟨fs9, hq9⟩ := sbP_at hsb
                refine x_callJr (va_runV (As := [.int 58]) (rest := []) ⟨hx, hb, hml, hown, hts⟩ (mSB_chr (E := (xPlus E [(qp, xInts E.cA 8 rd)])) hsb 58 (by decide) h48 σ H.size) (cwV 1 hts gL_areMade_J4_append_cf468 rfl rfl rfl (by decide +kernel) ⟨Nat.le_of_ble_eq_true rfl, Nat.le_of_ble_eq_true rfl⟩) (x_preLX _ hw hA hGL (q := 0) hq9 rfl) rfl rfl hl.1 rfl (lv_room (Nat.le_of_ble_eq_true rfl)) dL_areMade_314 ⟨show (((nc + 0) + 1) + 1) + 1 ≤ 536 by omega, show (((ns + 0) + 70) + 70) + 70 ≤ 15096 by omega⟩) hw hA (fun X84 r85 H locs hX hw => ?_)
                clear hq9 hsb
                obtain ⟨er, hsb⟩ := hX
                rw [er]
                clear er
                obtain ⟨t83, ex⟩ : ∃ tz : Nat → Nat, tz = sb_cat t79 n78 (fun _ => 58) := ⟨_, rfl⟩
                replace hf := xl_f hf t83 ex
                rw [← ex] at hsb
                clear ex
                obtain ⟨n82, ex⟩ : ∃ nz : Nat, nz = n78 + 1 := ⟨_, rfl⟩
                replace hf := xl_f hf n82 ex
                rw [← ex] at hsb
                clear ex
                refine lv_aload_n hx hb dL_areMade_317 rfl (lv_at hl 3 rfl) ?_
                refine lv_iload hx hb dL_areMade_318 (lv_at hl 5 rfl) ?_
                obtain ⟨hin, hf⟩ := xrs_f hf
                refine x_rld hx hb (E := E) (X := [(qp, xInts E.cA 8 rd)] ++ X84) (by rw [← xPlus_plus]; exact hw) (List.mem_append_left _ List.mem_cons_self) hin dL_areMade_320 ?_
                refine lv_topi (fun v86 ex => ?_)
                replace hf := hf v86 ex
                clear ex hin
                obtain ⟨h48, hf⟩ := xle_e hf
                obtain ⟨hx0, hx1, hf⟩ := x99_e hf
                obtain ⟨fs9, hq9⟩ := sbP_at hsb
                refine x_callJr (va_runV (As := [.int v86]) (rest := []) ⟨hx, hb, hml, hown, hts⟩ (mSB_int (E := (xPlus E [(qp, xInts E.cA 8 rd)])) hsb hx0 hx1 h48 σ H.size) (cwV 1 hts gL_areMade_J4_append_bf812 rfl rfl rfl (by decide +kernel) ⟨Nat.le_of_ble_eq_true rfl, Nat.le_of_ble_eq_true rfl⟩) (x_preLX _ hw hA hGL (q := 0) hq9 rfl) rfl rfl hl.1 rfl (lv_room (Nat.le_of_ble_eq_true rfl)) dL_areMade_321 ⟨show ((((nc + 0) + 1) + 1) + 1) + 1 ≤ 536 by omega, show ((((ns + 0) + 70) + 70) + 70) + 70 ≤ 15096 by omega⟩) hw hA (fun X89 r90 H locs hX hw => ?_)
                clear hq9 hsb
                obtain ⟨er, hsb⟩ := hX
                rw [er]
                clear er
                obtain ⟨t88, ex⟩ : ∃ tz : Nat → Nat, tz = sb_cat t83 n82 (sb_dec (v86).toNatClampNeg) := ⟨_, rfl⟩
                replace hf := xl_f hf t88 ex
                rw [← ex] at hsb
                clear ex
                obtain ⟨n87, ex⟩ : ∃ nz : Nat, nz = n82 + sb_dg (v86).toNatClampNeg := ⟨_, rfl⟩
                replace hf := xl_f hf n87 ex
                rw [← ex] at hsb
                clear ex
                refine lv_pop hx hb dL_areMade_324 rfl ?_
                obtain ⟨v91, ex⟩ : ∃ y : Int32, y = (a5 + 1) := ⟨_, rfl⟩
                replace hf := xl_f hf v91 ex
                refine lv_iinc (v := v91) (lv' := [(5, .int v91), (3, .int v53), (0, .ref (E.a 52)), (1, .int a1), (2, .ref qp), (4, .ref h)]) hx hb dL_areMade_325 hl (k := 5) rfl (by rw [ex]; rfl) (by decide) rfl (fun ls hl => ?_)
                clear ex
                refine lv_goto (tgt := 178) hx hb dL_areMade_328 (by decide) ?_
                exact ih178 a1 v53 v91 rd n87 t88 σ _ _ _ (((((nc + 0) + 1) + 1) + 1) + 1) (((((ns + 0) + 70) + 70) + 70) + 70) _ _ _ hsb hw (lv_sub hl [2, 3, 4, 1, 5, 0] rfl) hf (by omega) (by omega)
          have h272 : ∀ (a1 : Int32) (a3 : Int32) (a5 : Int32) (t0 : Int32) (t1 : Int32) (rd : (Nat → Int32)) (n9 : Nat) (t9 : (Nat → Nat)) (σ : xSt) (H : Heap) (locs : List Loc) (ls : Array Slot) (nc ns : Nat) (qp h : Nat) (X1 : va_W), sbP h (E.g.2.2 21) n9 t9 X1 → xw (xPlus (xPlus E [(qp, xInts E.cA 8 rd)]) X1) A s.heap s σ H locs → lv_has ls 9 [(0, .ref (E.a 52)), (1, .int a1), (2, .ref qp), (3, .int a3), (4, .ref h), (5, .int a5)] → fL_areMade_c272 (fL_areMade_c16 n16) (fL_areMade_c178 (fL_areMade_c16 n16) n178) a1 a3 a5 t0 t1 rd n9 t9 σ = some (o1, o2) → nc + (101 + 99 * n16 + 4 * n178) ≤ 536 → ns + (924 + 2970 * n16 + 280 * n178) ≤ 15096 → W p l e rmL_areMade s m args below meth c H locs nc ns (MQ below (xQi E A o1 o2) args s 536 15096 A) (F0 m 272 ls [.int t0, .int t1, .ref qp]) := by
            intro a1 a3 a5 t0 t1 rd n9 t9 σ H locs ls nc ns qp h X1 hsb hw hl hf hnc hns
            unfold fL_areMade_c272 at hf
            obtain ⟨hin, hf⟩ := xbs_e hf
            refine x_rst hx hb (E := E) (X := [(qp, xInts E.cA 8 rd)] ++ X1) (by rw [← xPlus_plus]; exact hw) (k := 0) rfl hin dL_areMade_272 (fun H locs hw => ?_)
            obtain ⟨rd51, ex⟩ : ∃ r9 : Nat → Int32, r9 = upd rd (t1).toNatClampNeg t0 := ⟨_, rfl⟩
            replace hf := xl_f hf rd51 ex
            have hw : xw (xPlus (xPlus E [(qp, xInts E.cA 8 rd51)]) X1) A s.heap s σ H locs := by rw [xPlus_plus, ex]; exact hw
            clear ex hin
            exact h273 a1 a3 a5 rd51 n9 t9 σ _ _ _ nc ns _ _ _ hsb hw (lv_sub hl [0, 1, 2, 3, 4, 5] rfl) hf (by omega) (by omega)
          have h236 : ∀ (a1 : Int32) (a3 : Int32) (a5 : Int32) (rd : (Nat → Int32)) (n9 : Nat) (t9 : (Nat → Nat)) (σ : xSt) (H : Heap) (locs : List Loc) (ls : Array Slot) (nc ns : Nat) (qp h : Nat) (X1 : va_W), sbP h (E.g.2.2 21) n9 t9 X1 → xw (xPlus (xPlus E [(qp, xInts E.cA 8 rd)]) X1) A s.heap s σ H locs → lv_has ls 9 [(0, .ref (E.a 52)), (1, .int a1), (2, .ref qp), (3, .int a3), (4, .ref h), (5, .int a5)] → fL_areMade_c236 (fL_areMade_c16 n16) (fL_areMade_c178 (fL_areMade_c16 n16) n178) a1 a3 a5 rd n9 t9 σ = some (o1, o2) → nc + (101 + 99 * n16 + 4 * n178) ≤ 536 → ns + (924 + 2970 * n16 + 280 * n178) ≤ 15096 → W p l e rmL_areMade s m args below meth c H locs nc ns (MQ below (xQi E A o1 o2) args s 536 15096 A) (F0 m 236 ls []) := by
            intro a1 a3 a5 rd n9 t9 σ H locs ls nc ns qp h X1 hsb hw hl hf hnc hns
            unfold fL_areMade_c236 at hf
            refine lv_iload hx hb dL_areMade_236 (lv_at hl 5 rfl) ?_
            refine lv_bipush (v := 7) hx hb dL_areMade_238 (by decide) ?_
            refine lv_icmp_ne (tgt := 273) hx hb dL_areMade_240 (by decide) (fun c240 => ?_) (fun c240 => ?_)
            · replace hf := xif_neg c240 hf
              exact h273 a1 a3 a5 rd n9 t9 σ _ _ _ nc ns _ _ _ hsb hw (lv_sub hl [0, 1, 2, 3, 4, 5] rfl) hf (by omega) (by omega)
            · replace hf := xif_pos c240 hf
              refine lv_aload_n hx hb dL_areMade_243 rfl (lv_at hl 2 rfl) ?_
              refine lv_iload hx hb dL_areMade_244 (lv_at hl 5 rfl) ?_
              refine lv_aload_n hx hb dL_areMade_246 rfl (lv_at hl 0 rfl) ?_
              refine x_getr hx hb hw (cL52 (xPlus_LE (xPlus_LE hE))) (own := RL) (ref := RL) (C := RL) (T := TL) (N := 10) hts hiL hown rfl 1 (by decide) hk34 (fun _ h9 => h9) rfl dL_areMade_247 ?_
              refine lv_bipush (v := 12) hx hb dL_areMade_250 (by decide) ?_
              obtain ⟨r47, σ48, hcl, hf⟩ := xc2_f hf
              refine x_callLi (va_runV (As := [.int 12]) (rest := [.int a5, .ref qp]) ⟨hx, hb, hml, hown, hts⟩ (mX12_next hl0 (xPlus_LE (xPlus_LE hE)) 12 σ r47 σ48 hcl H.size) (cwV 1 hts gL_areMade_X12_next rfl rfl rfl (by decide +kernel) ⟨Nat.le_of_ble_eq_true rfl, Nat.le_of_ble_eq_true rfl⟩) (x_preLV _ hw hA hGL (cL53 (xPlus_LE (xPlus_LE hE))) rfl) rfl rfl hl.1 rfl (lv_room (Nat.le_of_ble_eq_true rfl)) dL_areMade_252 ⟨show nc + 0 ≤ 536 by omega, show ns + 0 ≤ 15096 by omega⟩) hw hA (fun H locs hw => ?_)
              clear hcl
              refine lv_if_ne (tgt := 271) hx hb dL_areMade_255 (by decide) (fun c255 => ?_) (fun c255 => ?_)
              · replace hf := xif_neg c255 hf
                refine lv_iconst (v := 0) hx hb dL_areMade_271 (by decide) ?_
                exact h272 a1 a3 a5 0 a5 rd n9 t9 σ48 _ _ _ (nc + 0) (ns + 0) _ _ _ hsb hw (lv_sub hl [0, 1, 2, 3, 4, 5] rfl) hf (by omega) (by omega)
              · replace hf := xif_pos c255 hf
                refine lv_iconst (v := 1) hx hb dL_areMade_258 (by decide) ?_
                refine lv_aload_n hx hb dL_areMade_259 rfl (lv_at hl 0 rfl) ?_
                refine x_getr hx hb hw (cL52 (xPlus_LE (xPlus_LE hE))) (own := RL) (ref := RL) (C := RL) (T := TL) (N := 10) hts hiL hown rfl 1 (by decide) hk34 (fun _ h9 => h9) rfl dL_areMade_260 ?_
                refine lv_iconst (v := 5) hx hb dL_areMade_263 (by decide) ?_
                obtain ⟨r49, σ50, hcl, hf⟩ := xc2_f hf
                refine x_callLi (va_runV (As := [.int 5]) (rest := [.int 1, .int a5, .ref qp]) ⟨hx, hb, hml, hown, hts⟩ (mX12_next hl0 (xPlus_LE (xPlus_LE hE)) 5 σ48 r49 σ50 hcl H.size) (cwV 1 hts gL_areMade_X12_next rfl rfl rfl (by decide +kernel) ⟨Nat.le_of_ble_eq_true rfl, Nat.le_of_ble_eq_true rfl⟩) (x_preLV _ hw hA hGL (cL53 (xPlus_LE (xPlus_LE hE))) rfl) rfl rfl hl.1 rfl (lv_room (Nat.le_of_ble_eq_true rfl)) dL_areMade_264 ⟨show (nc + 0) + 0 ≤ 536 by omega, show (ns + 0) + 0 ≤ 15096 by omega⟩) hw hA (fun H locs hw => ?_)
                clear hcl
                refine lv_iadd hx hb dL_areMade_267 ?_
                refine lv_goto (tgt := 272) hx hb dL_areMade_268 (by decide) ?_
                exact h272 a1 a3 a5 (1 + r49) a5 rd n9 t9 σ50 _ _ _ ((nc + 0) + 0) ((ns + 0) + 0) _ _ _ hsb hw (lv_sub hl [0, 1, 2, 3, 4, 5] rfl) hf (by omega) (by omega)
          have h214 : ∀ (a1 : Int32) (a3 : Int32) (a5 : Int32) (t0 : Int32) (t1 : Int32) (rd : (Nat → Int32)) (n9 : Nat) (t9 : (Nat → Nat)) (σ : xSt) (H : Heap) (locs : List Loc) (ls : Array Slot) (nc ns : Nat) (qp h : Nat) (X1 : va_W), sbP h (E.g.2.2 21) n9 t9 X1 → xw (xPlus (xPlus E [(qp, xInts E.cA 8 rd)]) X1) A s.heap s σ H locs → lv_has ls 9 [(0, .ref (E.a 52)), (1, .int a1), (2, .ref qp), (3, .int a3), (4, .ref h), (5, .int a5)] → fL_areMade_c214 (fL_areMade_c16 n16) (fL_areMade_c178 (fL_areMade_c16 n16) n178) a1 a3 a5 t0 t1 rd n9 t9 σ = some (o1, o2) → nc + (101 + 99 * n16 + 4 * n178) ≤ 536 → ns + (924 + 2970 * n16 + 280 * n178) ≤ 15096 → W p l e rmL_areMade s m args below meth c H locs nc ns (MQ below (xQi E A o1 o2) args s 536 15096 A) (F0 m 214 ls [.int t0, .int t1, .ref qp]) := by
            intro a1 a3 a5 t0 t1 rd n9 t9 σ H locs ls nc ns qp h X1 hsb hw hl hf hnc hns
            unfold fL_areMade_c214 at hf
            obtain ⟨hin, hf⟩ := xbs_e hf
            refine x_rst hx hb (E := E) (X := [(qp, xInts E.cA 8 rd)] ++ X1) (by rw [← xPlus_plus]; exact hw) (k := 0) rfl hin dL_areMade_214 (fun H locs hw => ?_)
            obtain ⟨rd43, ex⟩ : ∃ r9 : Nat → Int32, r9 = upd rd (t1).toNatClampNeg t0 := ⟨_, rfl⟩
            replace hf := xl_f hf rd43 ex
            have hw : xw (xPlus (xPlus E [(qp, xInts E.cA 8 rd43)]) X1) A s.heap s σ H locs := by rw [xPlus_plus, ex]; exact hw
            clear ex hin
            refine lv_iload hx hb dL_areMade_215 (lv_at hl 5 rfl) ?_
            refine lv_iconst (v := 4) hx hb dL_areMade_217 (by decide) ?_
            refine lv_icmp_ne (tgt := 236) hx hb dL_areMade_218 (by decide) (fun c218 => ?_) (fun c218 => ?_)
            · replace hf := xif_neg c218 hf
              exact h236 a1 a3 a5 rd43 n9 t9 σ _ _ _ nc ns _ _ _ hsb hw (lv_sub hl [0, 1, 2, 3, 4, 5] rfl) hf (by omega) (by omega)
            · replace hf := xif_pos c218 hf
              refine lv_aload_n hx hb dL_areMade_221 rfl (lv_at hl 2 rfl) ?_
              refine lv_iload hx hb dL_areMade_222 (lv_at hl 5 rfl) ?_
              refine lv_iconst (v := 1) hx hb dL_areMade_224 (by decide) ?_
              refine lv_aload_n hx hb dL_areMade_225 rfl (lv_at hl 0 rfl) ?_
              refine x_getr hx hb hw (cL52 (xPlus_LE (xPlus_LE hE))) (own := RL) (ref := RL) (C := RL) (T := TL) (N := 10) hts hiL hown rfl 1 (by decide) hk34 (fun _ h9 => h9) rfl dL_areMade_226 ?_
              refine lv_bipush (v := 90) hx hb dL_areMade_229 (by decide) ?_
              obtain ⟨r44, σ45, hcl, hf⟩ := xc2_f hf
              refine x_callLi (va_runV (As := [.int 90]) (rest := [.int 1, .int a5, .ref qp]) ⟨hx, hb, hml, hown, hts⟩ (mX12_next hl0 (xPlus_LE (xPlus_LE hE)) 90 σ r44 σ45 hcl H.size) (cwV 1 hts gL_areMade_X12_next rfl rfl rfl (by decide +kernel) ⟨Nat.le_of_ble_eq_true rfl, Nat.le_of_ble_eq_true rfl⟩) (x_preLV _ hw hA hGL (cL53 (xPlus_LE (xPlus_LE hE))) rfl) rfl rfl hl.1 rfl (lv_room (Nat.le_of_ble_eq_true rfl)) dL_areMade_231 ⟨show nc + 0 ≤ 536 by omega, show ns + 0 ≤ 15096 by omega⟩) hw hA (fun H locs hw => ?_)
              clear hcl
              refine lv_iadd hx hb dL_areMade_234 ?_
              obtain ⟨hin, hf⟩ := xbs_e hf
              refine x_rst hx hb (E := E) (X := [(qp, xInts E.cA 8 rd43)] ++ X1) (by rw [← xPlus_plus]; exact hw) (k := 0) rfl hin dL_areMade_235 (fun H locs hw => ?_)
              obtain ⟨rd46, ex⟩ : ∃ r9 : Nat → Int32, r9 = upd rd43 (a5).toNatClampNeg (1 + r44) := ⟨_, rfl⟩
              replace hf := xl_f hf rd46 ex
              have hw : xw (xPlus (xPlus E [(qp, xInts E.cA 8 rd46)]) X1) A s.heap s σ45 H locs := by rw [xPlus_plus, ex]; exact hw
              clear ex hin
              exact h236 a1 a3 a5 rd46 n9 t9 σ45 _ _ _ (nc + 0) (ns + 0) _ _ _ hsb hw (lv_sub hl [0, 1, 2, 3, 4, 5] rfl) hf (by omega) (by omega)
          intro a1 a3 a5 rd n9 t9 σ H locs ls nc ns qp h X1 hsb hw hl hf hnc hns
          rw [fL_areMade_c178_s] at hf
          refine lv_iload hx hb dL_areMade_178 (lv_at hl 5 rfl) ?_
          refine lv_bipush (v := 8) hx hb dL_areMade_180 (by decide) ?_
          refine lv_icmp_ge (tgt := 331) hx hb dL_areMade_182 (by decide) (fun c182 => ?_) (fun c182 => ?_)
          · replace hf := xif_pos c182 hf
            refine lv_aload_n hx hb dL_areMade_331 rfl (lv_at hl 0 rfl) ?_
            refine lv_aload hx hb dL_areMade_332 (lv_at hl 4 rfl) ?_
            have hn70 := sbP_le hsb
            obtain ⟨v9, m9, ml9, a9, rfl, hM9, hn9, hf9, hL9⟩ := hsb
            have hm9 : m9 ≤ 70 := by rcases hM9 with rfl | rfl | rfl <;> decide
            refine x_callJr (va_runV (As := []) (rest := [.ref (E.a 52)]) ⟨hx, hb, hml, hown, hts⟩ (mJ4_toString (E := (xPlus E [(qp, xInts E.cA 8 rd)])) (w := h) (v := v9) (n := n9) (m := m9) (ml := ml9) (a := a9) hn9 hm9 hf9 σ H.size) (cwV 0 hts gL_areMade_J4_toString_0e30d rfl rfl rfl (by decide +kernel) ⟨Nat.le_of_ble_eq_true rfl, Nat.le_of_ble_eq_true rfl⟩) (x_preLX _ hw hA hGL (q := 0) rfl rfl) rfl rfl hl.1 rfl (lv_room (Nat.le_of_ble_eq_true rfl)) dL_areMade_334 ⟨show nc + 2 ≤ 536 by omega, show ns + 74 ≤ 15096 by omega⟩) hw hA (fun X8 hs8 H locs hX hw => ?_)
            obtain ⟨r9, b9, rfl, hb9⟩ := hX
            have hL8 := sb_latKeep hL9 hb9
            obtain ⟨r28, σ29, hcl, hf⟩ := xc2_f hf
            refine x_callLv (va_runV (As := [.ref hs8]) (rest := []) ⟨hx, hb, hml, hown, hts⟩ (mL_type hl0 (xPlus_LE hE) (X := [(h, sbO v9 ml9 n9), (v9, xBytes (E.g.2.2 21) m9 a9), (hs8, soO r9), (r9, xBytes (E.g.2.2 21) n9 b9)]) 2 3 rfl rfl (by omega) hL8 σ r28 σ29 hcl H.size) (cwV 1 hts gL_areMade_L_type rfl rfl rfl (by decide +kernel) ⟨Nat.le_of_ble_eq_true rfl, Nat.le_of_ble_eq_true rfl⟩) (x_preLV _ hw hA hGL (cL52 (xPlus_LE (xPlus_LE hE))) rfl) rfl rfl hl.1 rfl (lv_room (Nat.le_of_ble_eq_true rfl)) dL_areMade_337 ⟨show (nc + 2) + 16 ≤ 536 by omega, show (ns + 74) + 96 ≤ 15096 by omega⟩) hw hA (fun H locs hw => ?_)
            clear hcl
            replace hw := xw_drop hw
            refine lv_aload_n hx hb dL_areMade_340 rfl (lv_at hl 0 rfl) ?_
            refine x_getr hx hb hw (cL52 (xPlus_LE hE)) (own := RL) (ref := RL) (C := RL) (T := TL) (N := 10) hts hiL hown rfl 0 (by decide) hk10 (fun _ h9 => h9) rfl dL_areMade_341 ?_
            obtain ⟨r30, τ9, hcl, hf⟩ := xcm_g hf
            refine x_calli (va_runV (As := []) (rest := []) ⟨hx, hb, hml, hown, hts⟩ (mX11_fault (E := xCut (xPlus E [(qp, xInts E.cA 8 rd)]) σ29) rfl  σ29 r30 τ9 hcl H.size) (cwV 0 hts gL_areMade_X11_fault rfl rfl rfl (by decide +kernel) ⟨Nat.le_of_ble_eq_true rfl, Nat.le_of_ble_eq_true rfl⟩) (x_preV _ (xw_cut (xPlus_LE hE) hw) hA hG (cX0 (E := xCut (xPlus E [(qp, xInts E.cA 8 rd)]) σ29) rfl) rfl) rfl rfl hl.1 rfl (lv_room (Nat.le_of_ble_eq_true rfl)) dL_areMade_344 ⟨show ((nc + 2) + 16) + 0 ≤ 536 by omega, show ((ns + 74) + 96) + 0 ≤ 15096 by omega⟩) (xw_cut (xPlus_LE hE) hw) hA (fun H locs hw => ?_)
            obtain ⟨σ31, eρ, hw⟩ := xw_unc2 (xPlus_LE hE) hw
            replace hf := hf σ31 eρ
            clear eρ hcl
            refine lv_iconst (v := (-1)) hx hb dL_areMade_347 (by decide) ?_
            refine lv_icmp_ne (tgt := 373) hx hb dL_areMade_348 (by decide) (fun c348 => ?_) (fun c348 => ?_)
            · replace hf := xif_neg c348 hf
              refine lv_iconst (v := 0) hx hb dL_areMade_373 (by decide) ?_
              exact x_Lzretc hx hb hr hlk (xw_drop hw) (by decide) hf (show ((nc + 2) + 16) ≤ 536 by omega) (show ((ns + 74) + 96) ≤ 15096 by omega) dL_areMade_374
            · replace hf := xif_pos c348 hf
              refine lv_aload_n hx hb dL_areMade_351 rfl (lv_at hl 0 rfl) ?_
              refine x_getr hx hb hw (cL52 (xPlus_LE hE)) (own := RL) (ref := RL) (C := RL) (T := TL) (N := 10) hts hiL hown rfl 0 (by decide) hk10 (fun _ h9 => h9) rfl dL_areMade_352 ?_
              refine lv_iload_n hx hb dL_areMade_355 rfl (lv_at hl 1 rfl) ?_
              obtain ⟨r32, τ9, hcl, hf⟩ := xco_g hf
              refine x_tcallo (vx_runV (As := [.int a1]) (rest := []) ⟨hx, hb, hml, hown, hts⟩ (mX11_readParts hl0 (E := xCut (xPlus E [(qp, xInts E.cA 8 rd)]) σ31) rfl a1 σ31 (.inl r32) τ9 hcl H.size) (cwV 1 hts gL_areMade_X11_readParts rfl rfl rfl (by decide +kernel) ⟨Nat.le_of_ble_eq_true rfl, Nat.le_of_ble_eq_true rfl⟩) (x_preV _ (xw_cut (xPlus_LE hE) hw) hA hG (cX0 (E := xCut (xPlus E [(qp, xInts E.cA 8 rd)]) σ31) rfl) rfl) rfl rfl hl.1 rfl (lv_room (Nat.le_of_ble_eq_true rfl)) dL_areMade_356 ⟨show ((nc + 2) + 16) + 2 ≤ 536 by omega, show ((ns + 74) + 96) + 12 ≤ 15096 by omega⟩) (xw_cut (xPlus_LE hE) hw) hA (fun H locs hw => ?_)
              obtain ⟨σ33, eρ, hw⟩ := xw_unc2 (xPlus_LE hE) hw
              replace hf := hf σ33 eρ
              clear eρ hcl
              refine lv_iload_n hx hb dL_areMade_359 rfl (lv_at hl 3 rfl) ?_
              refine lv_icmp_ne (tgt := 373) hx hb dL_areMade_360 (by decide) (fun c360 => ?_) (fun c360 => ?_)
              · replace hf := xif_neg c360 hf
                refine lv_iconst (v := 0) hx hb dL_areMade_373 (by decide) ?_
                exact x_Lzretc hx hb hr hlk (xw_drop hw) (by decide) hf (show (((nc + 2) + 16) + 2) ≤ 536 by omega) (show (((ns + 74) + 96) + 12) ≤ 15096 by omega) dL_areMade_374
              · replace hf := xif_pos c360 hf
                refine lv_aload_n hx hb dL_areMade_363 rfl (lv_at hl 0 rfl) ?_
                refine x_getr hx hb hw (cL52 (xPlus_LE hE)) (own := RL) (ref := RL) (C := RL) (T := TL) (N := 10) hts hiL hown rfl 0 (by decide) hk10 (fun _ h9 => h9) rfl dL_areMade_364 ?_
                obtain ⟨r34, τ9, hcl, hf⟩ := xcm_g hf
                refine x_calli (va_runV (As := []) (rest := []) ⟨hx, hb, hml, hown, hts⟩ (mX11_fault (E := xCut (xPlus E [(qp, xInts E.cA 8 rd)]) σ33) rfl  σ33 r34 τ9 hcl H.size) (cwV 0 hts gL_areMade_X11_fault rfl rfl rfl (by decide +kernel) ⟨Nat.le_of_ble_eq_true rfl, Nat.le_of_ble_eq_true rfl⟩) (x_preV _ (xw_cut (xPlus_LE hE) hw) hA hG (cX0 (E := xCut (xPlus E [(qp, xInts E.cA 8 rd)]) σ33) rfl) rfl) rfl rfl hl.1 rfl (lv_room (Nat.le_of_ble_eq_true rfl)) dL_areMade_367 ⟨show (((nc + 2) + 16) + 2) + 0 ≤ 536 by omega, show (((ns + 74) + 96) + 12) + 0 ≤ 15096 by omega⟩) (xw_cut (xPlus_LE hE) hw) hA (fun H locs hw => ?_)
                obtain ⟨σ35, eρ, hw⟩ := xw_unc2 (xPlus_LE hE) hw
                replace hf := hf σ35 eρ
                clear eρ hcl
                refine lv_if_eq (tgt := 375) hx hb dL_areMade_370 (by decide) (fun c370 => ?_) (fun c370 => ?_)
                · replace hf := xif_pos c370 hf
                  refine lv_iconst (v := 1) hx hb dL_areMade_375 (by decide) ?_
                  refine lv_aload_n hx hb dL_areMade_376 rfl (lv_at hl 0 rfl) ?_
                  refine x_getr hx hb hw (cL52 (xPlus_LE hE)) (own := RL) (ref := RL) (C := RL) (T := TL) (N := 10) hts hiL hown rfl 1 (by decide) hk34 (fun _ h9 => h9) rfl dL_areMade_377 ?_
                  refine lv_sipush (v := 5000) hx hb dL_areMade_380 (by decide) ?_
                  obtain ⟨r36, σ37, hcl, hf⟩ := xc2_f hf
                  refine x_callLi (va_runV (As := [.int 5000]) (rest := [.int 1]) ⟨hx, hb, hml, hown, hts⟩ (mX12_next hl0 (xPlus_LE hE) 5000 σ35 r36 σ37 hcl H.size) (cwV 1 hts gL_areMade_X12_next rfl rfl rfl (by decide +kernel) ⟨Nat.le_of_ble_eq_true rfl, Nat.le_of_ble_eq_true rfl⟩) (x_preLV _ hw hA hGL (cL53 (xPlus_LE hE)) rfl) rfl rfl hl.1 rfl (lv_room (Nat.le_of_ble_eq_true rfl)) dL_areMade_383 ⟨show (((nc + 2) + 16) + 2) + 0 ≤ 536 by omega, show (((ns + 74) + 96) + 12) + 0 ≤ 15096 by omega⟩) hw hA (fun H locs hw => ?_)
                  clear hcl
                  refine lv_iadd hx hb dL_areMade_386 ?_
                  refine lv_topi (fun v38 ex => ?_)
                  replace hf := xl_f hf v38 ex
                  clear ex
                  refine lv_istore (lv' := [(5, .int v38), (0, .ref (E.a 52)), (1, .int a1), (2, .ref qp), (3, .int a3), (4, .ref h)]) hx hb dL_areMade_387 hl (by decide) rfl (fun ls hl => ?_)
                  refine lv_iconst (v := 0) hx hb dL_areMade_389 (by decide) ?_
                  refine lv_istore (lv' := [(6, .int 0), (5, .int v38), (0, .ref (E.a 52)), (1, .int a1), (2, .ref qp), (3, .int a3), (4, .ref h)]) hx hb dL_areMade_390 hl (by decide) rfl (fun ls hl => ?_)
                  refine lv_iconst (v := 0) hx hb dL_areMade_392 (by decide) ?_
                  refine lv_istore (lv' := [(7, .int 0), (6, .int 0), (5, .int v38), (0, .ref (E.a 52)), (1, .int a1), (2, .ref qp), (3, .int a3), (4, .ref h)]) hx hb dL_areMade_393 hl (by decide) rfl (fun ls hl => ?_)
                  exact h395 xF9 a1 a3 v38 0 0 rd σ37 _ _ _ ((((nc + 2) + 16) + 2) + 0) ((((ns + 74) + 96) + 12) + 0) _ hw (lv_sub hl [3, 4, 5, 6, 2, 1, 0] rfl) hf (by omega) (by omega)
                · replace hf := xif_neg c370 hf
                  refine lv_iconst (v := 0) hx hb dL_areMade_373 (by decide) ?_
                  exact x_Lzretc hx hb hr hlk (xw_drop hw) (by decide) hf (show (((nc + 2) + 16) + 2) ≤ 536 by omega) (show (((ns + 74) + 96) + 12) ≤ 15096 by omega) dL_areMade_374
          · replace hf := xif_neg c182 hf
            refine lv_aload_n hx hb dL_areMade_185 rfl (lv_at hl 2 rfl) ?_
            refine lv_iload hx hb dL_areMade_186 (lv_at hl 5 rfl) ?_
            refine lv_aload_n hx hb dL_areMade_188 rfl (lv_at hl 0 rfl) ?_
            refine x_getr hx hb hw (cL52 (xPlus_LE (xPlus_LE hE))) (own := RL) (ref := RL) (C := RL) (T := TL) (N := 10) hts hiL hown rfl 1 (by decide) hk34 (fun _ h9 => h9) rfl dL_areMade_189 ?_
            refine lv_iconst (v := 3) hx hb dL_areMade_192 (by decide) ?_
            obtain ⟨r39, σ40, hcl, hf⟩ := xc2_f hf
            refine x_callLi (va_runV (As := [.int 3]) (rest := [.int a5, .ref qp]) ⟨hx, hb, hml, hown, hts⟩ (mX12_next hl0 (xPlus_LE (xPlus_LE hE)) 3 σ r39 σ40 hcl H.size) (cwV 1 hts gL_areMade_X12_next rfl rfl rfl (by decide +kernel) ⟨Nat.le_of_ble_eq_true rfl, Nat.le_of_ble_eq_true rfl⟩) (x_preLV _ hw hA hGL (cL53 (xPlus_LE (xPlus_LE hE))) rfl) rfl rfl hl.1 rfl (lv_room (Nat.le_of_ble_eq_true rfl)) dL_areMade_193 ⟨show nc + 0 ≤ 536 by omega, show ns + 0 ≤ 15096 by omega⟩) hw hA (fun H locs hw => ?_)
            clear hcl
            refine lv_if_ne (tgt := 203) hx hb dL_areMade_196 (by decide) (fun c196 => ?_) (fun c196 => ?_)
            · replace hf := xif_neg c196 hf
              refine lv_iconst (v := 1) hx hb dL_areMade_203 (by decide) ?_
              refine lv_aload_n hx hb dL_areMade_204 rfl (lv_at hl 0 rfl) ?_
              refine x_getr hx hb hw (cL52 (xPlus_LE (xPlus_LE hE))) (own := RL) (ref := RL) (C := RL) (T := TL) (N := 10) hts hiL hown rfl 1 (by decide) hk34 (fun _ h9 => h9) rfl dL_areMade_205 ?_
              refine lv_bipush (v := 60) hx hb dL_areMade_208 (by decide) ?_
              obtain ⟨r41, σ42, hcl, hf⟩ := xc2_f hf
              refine x_callLi (va_runV (As := [.int 60]) (rest := [.int 1, .int a5, .ref qp]) ⟨hx, hb, hml, hown, hts⟩ (mX12_next hl0 (xPlus_LE (xPlus_LE hE)) 60 σ40 r41 σ42 hcl H.size) (cwV 1 hts gL_areMade_X12_next rfl rfl rfl (by decide +kernel) ⟨Nat.le_of_ble_eq_true rfl, Nat.le_of_ble_eq_true rfl⟩) (x_preLV _ hw hA hGL (cL53 (xPlus_LE (xPlus_LE hE))) rfl) rfl rfl hl.1 rfl (lv_room (Nat.le_of_ble_eq_true rfl)) dL_areMade_210 ⟨show (nc + 0) + 0 ≤ 536 by omega, show (ns + 0) + 0 ≤ 15096 by omega⟩) hw hA (fun H locs hw => ?_)
              clear hcl
              refine lv_iadd hx hb dL_areMade_213 ?_
              exact h214 a1 a3 a5 (1 + r41) a5 rd n9 t9 σ42 _ _ _ ((nc + 0) + 0) ((ns + 0) + 0) _ _ _ hsb hw (lv_sub hl [0, 1, 2, 3, 4, 5] rfl) hf (by omega) (by omega)
            · replace hf := xif_pos c196 hf
              refine lv_iconst (v := 0) hx hb dL_areMade_199 (by decide) ?_
              refine lv_goto (tgt := 214) hx hb dL_areMade_200 (by decide) ?_
              exact h214 a1 a3 a5 0 a5 rd n9 t9 σ40 _ _ _ (nc + 0) (ns + 0) _ _ _ hsb hw (lv_sub hl [0, 1, 2, 3, 4, 5] rfl) hf (by omega) (by omega)
      intro a1 σ H locs ls nc ns hw hl hf hnc hns
      rw [fL_areMade_c16_s] at hf
      refine lv_iload_n hx hb dL_areMade_16 rfl (lv_at hl 1 rfl) ?_
      refine lv_aload_n hx hb dL_areMade_17 rfl (lv_at hl 0 rfl) ?_
      refine x_geti hx hb hw (cL52 hE) (own := RL) (ref := RL) (C := RL) (T := TL) (N := 10) hts hiL hown rfl 2 (by decide) hk62 (fun _ h9 => h9) rfl dL_areMade_18 ?_
      refine lv_icmp_ge (tgt := 471) hx hb dL_areMade_21 (by decide) (fun c21 => ?_) (fun c21 => ?_)
      · replace hf := xif_pos c21 hf
        refine lv_iconst (v := 0) hx hb dL_areMade_471 (by decide) ?_
        refine lv_istore_n (lv' := [(1, .int 0), (0, .ref (E.a 52))]) hx hb dL_areMade_472 rfl hl (by decide) rfl (fun ls hl => ?_)
        exact h473 xF8 0 σ _ _ _ nc ns hw (lv_sub hl [1, 0] rfl) hf (by omega) (by omega)
      · replace hf := xif_neg c21 hf
        refine lv_aload_n hx hb dL_areMade_24 rfl (lv_at hl 0 rfl) ?_
        refine x_getr hx hb hw (cL52 hE) (own := RL) (ref := RL) (C := RL) (T := TL) (N := 10) hts hiL hown rfl 6 (by decide) hk16 (fun _ h9 => h9) rfl dL_areMade_25 ?_
        refine lv_iload_n hx hb dL_areMade_28 rfl (lv_at hl 1 rfl) ?_
        refine lv_iconst (v := 1) hx hb dL_areMade_29 (by decide) ?_
        refine lv_aload_n hx hb dL_areMade_30 rfl (lv_at hl 0 rfl) ?_
        refine x_getr hx hb hw (cL52 hE) (own := RL) (ref := RL) (C := RL) (T := TL) (N := 10) hts hiL hown rfl 1 (by decide) hk34 (fun _ h9 => h9) rfl dL_areMade_31 ?_
        refine lv_bipush (v := 30) hx hb dL_areMade_34 (by decide) ?_
        obtain ⟨r4, σ5, hcl, hf⟩ := xc2_f hf
        refine x_callLi (va_runV (As := [.int 30]) (rest := [.int 1, .int a1, .ref (E.a 54)]) ⟨hx, hb, hml, hown, hts⟩ (mX12_next hl0 hE 30 σ r4 σ5 hcl H.size) (cwV 1 hts gL_areMade_X12_next rfl rfl rfl (by decide +kernel) ⟨Nat.le_of_ble_eq_true rfl, Nat.le_of_ble_eq_true rfl⟩) (x_preLV _ hw hA hGL (cL53 hE) rfl) rfl rfl hl.1 rfl (lv_room (Nat.le_of_ble_eq_true rfl)) dL_areMade_36 ⟨show nc + 0 ≤ 536 by omega, show ns + 0 ≤ 15096 by omega⟩) hw hA (fun H locs hw => ?_)
        clear hcl
        refine lv_iadd hx hb dL_areMade_39 ?_
        obtain ⟨hin, hf⟩ := xs_f hf
        refine x_iast hx hb hw (cL54 hE) hin dL_areMade_40 (fun σ6 H locs ex hw => ?_)
        replace hf := hf σ6 ex
        clear ex hin
        refine lv_aload_n hx hb dL_areMade_41 rfl (lv_at hl 0 rfl) ?_
        refine x_getr hx hb hw (cL52 hE) (own := RL) (ref := RL) (C := RL) (T := TL) (N := 10) hts hiL hown rfl 7 (by decide) hk20 (fun _ h9 => h9) rfl dL_areMade_42 ?_
        refine lv_iload_n hx hb dL_areMade_45 rfl (lv_at hl 1 rfl) ?_
        refine lv_aload_n hx hb dL_areMade_46 rfl (lv_at hl 0 rfl) ?_
        refine x_getr hx hb hw (cL52 hE) (own := RL) (ref := RL) (C := RL) (T := TL) (N := 10) hts hiL hown rfl 6 (by decide) hk16 (fun _ h9 => h9) rfl dL_areMade_47 ?_
        refine lv_iload_n hx hb dL_areMade_50 rfl (lv_at hl 1 rfl) ?_
        obtain ⟨hin, hf⟩ := xr_f hf
        refine x_iald hx hb hw (cL54 hE) hin dL_areMade_51 ?_
        refine lv_topi (fun v7 ex => ?_)
        replace hf := hf v7 ex
        clear ex hin
        refine lv_aload_n hx hb dL_areMade_52 rfl (lv_at hl 0 rfl) ?_
        refine x_getr hx hb hw (cL52 hE) (own := RL) (ref := RL) (C := RL) (T := TL) (N := 10) hts hiL hown rfl 1 (by decide) hk34 (fun _ h9 => h9) rfl dL_areMade_53 ?_
        refine lv_bipush (v := 40) hx hb dL_areMade_56 (by decide) ?_
        obtain ⟨r8, σ9, hcl, hf⟩ := xc2_f hf
        refine x_callLi (va_runV (As := [.int 40]) (rest := [.int v7, .int a1, .ref (E.a 55)]) ⟨hx, hb, hml, hown, hts⟩ (mX12_next hl0 hE 40 σ6 r8 σ9 hcl H.size) (cwV 1 hts gL_areMade_X12_next rfl rfl rfl (by decide +kernel) ⟨Nat.le_of_ble_eq_true rfl, Nat.le_of_ble_eq_true rfl⟩) (x_preLV _ hw hA hGL (cL53 hE) rfl) rfl rfl hl.1 rfl (lv_room (Nat.le_of_ble_eq_true rfl)) dL_areMade_58 ⟨show (nc + 0) + 0 ≤ 536 by omega, show (ns + 0) + 0 ≤ 15096 by omega⟩) hw hA (fun H locs hw => ?_)
        clear hcl
        refine lv_iadd hx hb dL_areMade_61 ?_
        obtain ⟨hin, hf⟩ := xs_f hf
        refine x_iast hx hb hw (cL55 hE) hin dL_areMade_62 (fun σ10 H locs ex hw => ?_)
        replace hf := hf σ10 ex
        clear ex hin
        refine lv_aload_n hx hb dL_areMade_63 rfl (lv_at hl 0 rfl) ?_
        refine x_getr hx hb hw (cL52 hE) (own := RL) (ref := RL) (C := RL) (T := TL) (N := 10) hts hiL hown rfl 9 (by decide) hk26 (fun _ h9 => h9) rfl dL_areMade_64 ?_
        refine lv_iload_n hx hb dL_areMade_67 rfl (lv_at hl 1 rfl) ?_
        refine lv_aload_n hx hb dL_areMade_68 rfl (lv_at hl 0 rfl) ?_
        refine x_getr hx hb hw (cL52 hE) (own := RL) (ref := RL) (C := RL) (T := TL) (N := 10) hts hiL hown rfl 1 (by decide) hk34 (fun _ h9 => h9) rfl dL_areMade_69 ?_
        refine lv_bipush (v := 16) hx hb dL_areMade_72 (by decide) ?_
        obtain ⟨r11, σ12, hcl, hf⟩ := xc2_f hf
        refine x_callLi (va_runV (As := [.int 16]) (rest := [.int a1, .ref (E.a 57)]) ⟨hx, hb, hml, hown, hts⟩ (mX12_next hl0 hE 16 σ10 r11 σ12 hcl H.size) (cwV 1 hts gL_areMade_X12_next rfl rfl rfl (by decide +kernel) ⟨Nat.le_of_ble_eq_true rfl, Nat.le_of_ble_eq_true rfl⟩) (x_preLV _ hw hA hGL (cL53 hE) rfl) rfl rfl hl.1 rfl (lv_room (Nat.le_of_ble_eq_true rfl)) dL_areMade_74 ⟨show ((nc + 0) + 0) + 0 ≤ 536 by omega, show ((ns + 0) + 0) + 0 ≤ 15096 by omega⟩) hw hA (fun H locs hw => ?_)
        clear hcl
        obtain ⟨hin, hf⟩ := xs_f hf
        refine x_iast hx hb hw (cL57 hE) hin dL_areMade_77 (fun σ13 H locs ex hw => ?_)
        replace hf := hf σ13 ex
        clear ex hin
        refine lv_aload_n hx hb dL_areMade_78 rfl (lv_at hl 0 rfl) ?_
        refine x_getr hx hb hw (cL52 hE) (own := RL) (ref := RL) (C := RL) (T := TL) (N := 10) hts hiL hown rfl 8 (by decide) hk23 (fun _ h9 => h9) rfl dL_areMade_79 ?_
        refine lv_iload_n hx hb dL_areMade_82 rfl (lv_at hl 1 rfl) ?_
        refine lv_iconst (v := 5) hx hb dL_areMade_83 (by decide) ?_
        refine lv_aload_n hx hb dL_areMade_84 rfl (lv_at hl 0 rfl) ?_
        refine x_getr hx hb hw (cL52 hE) (own := RL) (ref := RL) (C := RL) (T := TL) (N := 10) hts hiL hown rfl 1 (by decide) hk34 (fun _ h9 => h9) rfl dL_areMade_85 ?_
        refine lv_bipush (v := 40) hx hb dL_areMade_88 (by decide) ?_
        obtain ⟨r14, σ15, hcl, hf⟩ := xc2_f hf
        refine x_callLi (va_runV (As := [.int 40]) (rest := [.int 5, .int a1, .ref (E.a 56)]) ⟨hx, hb, hml, hown, hts⟩ (mX12_next hl0 hE 40 σ13 r14 σ15 hcl H.size) (cwV 1 hts gL_areMade_X12_next rfl rfl rfl (by decide +kernel) ⟨Nat.le_of_ble_eq_true rfl, Nat.le_of_ble_eq_true rfl⟩) (x_preLV _ hw hA hGL (cL53 hE) rfl) rfl rfl hl.1 rfl (lv_room (Nat.le_of_ble_eq_true rfl)) dL_areMade_90 ⟨show (((nc + 0) + 0) + 0) + 0 ≤ 536 by omega, show (((ns + 0) + 0) + 0) + 0 ≤ 15096 by omega⟩) hw hA (fun H locs hw => ?_)
        clear hcl
        refine lv_iadd hx hb dL_areMade_93 ?_
        obtain ⟨hin, hf⟩ := xs_f hf
        refine x_iast hx hb hw (cL56 hE) hin dL_areMade_94 (fun σ16 H locs ex hw => ?_)
        replace hf := hf σ16 ex
        clear ex hin
        refine lv_aload_n hx hb dL_areMade_95 rfl (lv_at hl 0 rfl) ?_
        refine x_getr hx hb hw (cL52 hE) (own := RL) (ref := RL) (C := RL) (T := TL) (N := 10) hts hiL hown rfl 0 (by decide) hk10 (fun _ h9 => h9) rfl dL_areMade_96 ?_
        refine lv_bipush (v := 50) hx hb dL_areMade_99 (by decide) ?_
        refine lv_aload_n hx hb dL_areMade_101 rfl (lv_at hl 0 rfl) ?_
        refine x_getr hx hb hw (cL52 hE) (own := RL) (ref := RL) (C := RL) (T := TL) (N := 10) hts hiL hown rfl 1 (by decide) hk34 (fun _ h9 => h9) rfl dL_areMade_102 ?_
        refine lv_bipush (v := 60) hx hb dL_areMade_105 (by decide) ?_
        obtain ⟨r17, σ18, hcl, hf⟩ := xc2_f hf
        refine x_callLi (va_runV (As := [.int 60]) (rest := [.int 50, .ref (E.a 0)]) ⟨hx, hb, hml, hown, hts⟩ (mX12_next hl0 hE 60 σ16 r17 σ18 hcl H.size) (cwV 1 hts gL_areMade_X12_next rfl rfl rfl (by decide +kernel) ⟨Nat.le_of_ble_eq_true rfl, Nat.le_of_ble_eq_true rfl⟩) (x_preLV _ hw hA hGL (cL53 hE) rfl) rfl rfl hl.1 rfl (lv_room (Nat.le_of_ble_eq_true rfl)) dL_areMade_107 ⟨show ((((nc + 0) + 0) + 0) + 0) + 0 ≤ 536 by omega, show ((((ns + 0) + 0) + 0) + 0) + 0 ≤ 15096 by omega⟩) hw hA (fun H locs hw => ?_)
        clear hcl
        refine lv_iadd hx hb dL_areMade_110 ?_
        refine lv_aload_n hx hb dL_areMade_111 rfl (lv_at hl 0 rfl) ?_
        refine x_getr hx hb hw (cL52 hE) (own := RL) (ref := RL) (C := RL) (T := TL) (N := 10) hts hiL hown rfl 6 (by decide) hk16 (fun _ h9 => h9) rfl dL_areMade_112 ?_
        refine lv_iload_n hx hb dL_areMade_115 rfl (lv_at hl 1 rfl) ?_
        obtain ⟨hin, hf⟩ := xr_f hf
        refine x_iald hx hb hw (cL54 hE) hin dL_areMade_116 ?_
        refine lv_topi (fun v19 ex => ?_)
        replace hf := hf v19 ex
        clear ex hin
        refine lv_aload_n hx hb dL_areMade_117 rfl (lv_at hl 0 rfl) ?_
        refine x_getr hx hb hw (cL52 hE) (own := RL) (ref := RL) (C := RL) (T := TL) (N := 10) hts hiL hown rfl 7 (by decide) hk20 (fun _ h9 => h9) rfl dL_areMade_118 ?_
        refine lv_iload_n hx hb dL_areMade_121 rfl (lv_at hl 1 rfl) ?_
        obtain ⟨hin, hf⟩ := xr_f hf
        refine x_iald hx hb hw (cL55 hE) hin dL_areMade_122 ?_
        refine lv_topi (fun v20 ex => ?_)
        replace hf := hf v20 ex
        clear ex hin
        refine lv_bipush (v := 100) hx hb dL_areMade_123 (by decide) ?_
        refine lv_aload_n hx hb dL_areMade_125 rfl (lv_at hl 0 rfl) ?_
        refine x_getr hx hb hw (cL52 hE) (own := RL) (ref := RL) (C := RL) (T := TL) (N := 10) hts hiL hown rfl 9 (by decide) hk26 (fun _ h9 => h9) rfl dL_areMade_126 ?_
        refine lv_iload_n hx hb dL_areMade_129 rfl (lv_at hl 1 rfl) ?_
        obtain ⟨hin, hf⟩ := xr_f hf
        refine x_iald hx hb hw (cL57 hE) hin dL_areMade_130 ?_
        refine lv_topi (fun v21 ex => ?_)
        replace hf := hf v21 ex
        clear ex hin
        obtain ⟨r22, τ9, hcl, hf⟩ := xco_g hf
        refine x_tcallo (vx_runV (As := [.int (50 + r17), .int v19, .int v20, .int 100, .int v21]) (rest := []) ⟨hx, hb, hml, hown, hts⟩ (mX11_addRecipe hl0 (E := xCut E σ18) rfl (50 + r17) v19 v20 100 v21 σ18 (.inl r22) τ9 hcl H.size) (cwV 5 hts gL_areMade_X11_addRecipe rfl rfl rfl (by decide +kernel) ⟨Nat.le_of_ble_eq_true rfl, Nat.le_of_ble_eq_true rfl⟩) (x_preV _ (xw_cut hE hw) hA hG (cX0 (E := xCut E σ18) rfl) rfl) rfl rfl hl.1 rfl (lv_room (Nat.le_of_ble_eq_true rfl)) dL_areMade_131 ⟨show (((((nc + 0) + 0) + 0) + 0) + 0) + 2 ≤ 536 by omega, show (((((ns + 0) + 0) + 0) + 0) + 0) + 12 ≤ 15096 by omega⟩) (xw_cut hE hw) hA (fun H locs hw => ?_)
        obtain ⟨σ23, eρ, hw⟩ := xw_unc2 hE hw
        replace hf := hf σ23 eρ
        clear eρ hcl
        refine lv_iload_n hx hb dL_areMade_134 rfl (lv_at hl 1 rfl) ?_
        refine lv_icmp_ne (tgt := 157) hx hb dL_areMade_135 (by decide) (fun c135 => ?_) (fun c135 => ?_)
        · replace hf := xif_neg c135 hf
          refine lv_iconst (v := 0) hx hb dL_areMade_157 (by decide) ?_
          exact x_Lzretc hx hb hr hlk hw (by decide) hf (show ((((((nc + 0) + 0) + 0) + 0) + 0) + 2) ≤ 536 by omega) (show ((((((ns + 0) + 0) + 0) + 0) + 0) + 12) ≤ 15096 by omega) dL_areMade_158
        · replace hf := xif_pos c135 hf
          refine lv_aload_n hx hb dL_areMade_138 rfl (lv_at hl 0 rfl) ?_
          refine x_getr hx hb hw (cL52 hE) (own := RL) (ref := RL) (C := RL) (T := TL) (N := 10) hts hiL hown rfl 0 (by decide) hk10 (fun _ h9 => h9) rfl dL_areMade_139 ?_
          refine lv_iload_n hx hb dL_areMade_142 rfl (lv_at hl 1 rfl) ?_
          refine lv_aload_n hx hb dL_areMade_143 rfl (lv_at hl 0 rfl) ?_
          refine x_getr hx hb hw (cL52 hE) (own := RL) (ref := RL) (C := RL) (T := TL) (N := 10) hts hiL hown rfl 8 (by decide) hk23 (fun _ h9 => h9) rfl dL_areMade_144 ?_
          refine lv_iload_n hx hb dL_areMade_147 rfl (lv_at hl 1 rfl) ?_
          obtain ⟨hin, hf⟩ := xr_f hf
          refine x_iald hx hb hw (cL56 hE) hin dL_areMade_148 ?_
          refine lv_topi (fun v24 ex => ?_)
          replace hf := hf v24 ex
          clear ex hin
          obtain ⟨r25, τ9, hcl, hf⟩ := xco_g hf
          refine x_tcallo (vx_runV (As := [.int a1, .int v24]) (rest := []) ⟨hx, hb, hml, hown, hts⟩ (mX11_setWait hl0 (E := xCut E σ23) rfl a1 v24 σ23 (.inl r25) τ9 hcl H.size) (cwV 2 hts gL_areMade_X11_setWait rfl rfl rfl (by decide +kernel) ⟨Nat.le_of_ble_eq_true rfl, Nat.le_of_ble_eq_true rfl⟩) (x_preV _ (xw_cut hE hw) hA hG (cX0 (E := xCut E σ23) rfl) rfl) rfl rfl hl.1 rfl (lv_room (Nat.le_of_ble_eq_true rfl)) dL_areMade_149 ⟨show ((((((nc + 0) + 0) + 0) + 0) + 0) + 2) + 2 ≤ 536 by omega, show ((((((ns + 0) + 0) + 0) + 0) + 0) + 12) + 12 ≤ 15096 by omega⟩) (xw_cut hE hw) hA (fun H locs hw => ?_)
          obtain ⟨σ26, eρ, hw⟩ := xw_unc2 hE hw
          replace hf := hf σ26 eρ
          clear eρ hcl
          refine lv_bipush (v := 20) hx hb dL_areMade_152 (by decide) ?_
          refine lv_icmp_eq (tgt := 159) hx hb dL_areMade_154 (by decide) (fun c154 => ?_) (fun c154 => ?_)
          · replace hf := xif_pos c154 hf
            refine lv_bipush (v := 8) hx hb dL_areMade_159 (by decide) ?_
            have hw : xw (xPlus E []) A s.heap s σ26 H _ := (by rw [xPlus_nil]; exact hw)
            refine x_newX hx hb (hts (.arrayClass .int) (by decide +kernel)) hw hA (N' := 8) (by decide) (by decide) (Nat.le_of_ble_eq_true rfl) (show (((((((nc + 0) + 0) + 0) + 0) + 0) + 2) + 2) + 1 ≤ 536 by omega) (show (((((((ns + 0) + 0) + 0) + 0) + 0) + 12) + 12) + 8 ≤ 15096 by omega) dL_areMade_161 (fun qp H hw => ?_)
            have hw : xw (xPlus E [(qp, xInts E.cA 8 (fun _ => 0))]) A s.heap s σ26 H _ := hw
            refine lv_astore_n (lv' := [(2, .ref qp), (0, .ref (E.a 52)), (1, .int a1)]) hx hb dL_areMade_163 rfl hl (by decide) rfl (fun ls hl => ?_)
            refine lv_iconst (v := 0) hx hb dL_areMade_164 (by decide) ?_
            refine lv_istore_n (lv' := [(3, .int 0), (2, .ref qp), (0, .ref (E.a 52)), (1, .int a1)]) hx hb dL_areMade_165 rfl hl (by decide) rfl (fun ls hl => ?_)
            refine va_new (ci := 15) (fs := [.null, .int 0, .int 0, .int 0]) (C := RJ4) (T := TJ4) (N := 4) hx hb hts hiJ4 tyJ4 tyJ4_ok hown (hts (.classLink RL 74 RJ4) (by decide +kernel)) (hts (.instantiable RJ4 4) (by decide +kernel)) (hts (.initialized RJ4) (by decide +kernel)) hw.1 hw.2.1 hw.2.2.1 hw.2.2.2 hA rfl (fun j hj => by rcases (show j = 0 ∨ j = 1 ∨ j = 2 ∨ j = 3 by omega) with rfl | rfl | rfl | rfl <;> rfl) (show ((((((((nc + 0) + 0) + 0) + 0) + 0) + 2) + 2) + 1) + 1 ≤ 536 by omega) (show ((((((((ns + 0) + 0) + 0) + 0) + 0) + 12) + 12) + 8) + 4 ≤ 15096 by omega) dL_areMade_166 (fun h H hP hD hS => ?_)
            have hw : xw (xPlus (xPlus E [(qp, xInts E.cA 8 (fun _ => 0))]) [(h, sbN)]) A s.heap s σ26 H _ := ⟨hw.1, by rw [xPlus_W]; exact hP, by rw [xPlus_W]; exact hD, hS⟩
            refine lv_dup hx hb dL_areMade_169 rfl ?_
            refine x_callJv (va_runI (As := []) (rest := [.ref h]) ⟨hx, hb, hml, hown, hts⟩ (mJ4_init (E := (xPlus E [(qp, xInts E.cA 8 (fun _ => 0))])) h σ26 H.size) (cwI 0 hts gL_areMade_J4_init_da8c8 rfl rfl rfl (hts (.initialized RJ4) (by decide +kernel)) (hts (.methodLink RL 76 yJ4_init_da8c8) (by decide +kernel)) (hts (.instanceMethod yJ4_init_da8c8) (by decide +kernel)) rfl (by decide +kernel) ⟨Nat.le_of_ble_eq_true rfl, Nat.le_of_ble_eq_true rfl⟩) (x_preLS _ hw hA hGL) rfl rfl hl.1 rfl (lv_room (Nat.le_of_ble_eq_true rfl)) dL_areMade_170 ⟨show (((((((((nc + 0) + 0) + 0) + 0) + 0) + 2) + 2) + 1) + 1) + 1 ≤ 536 by omega, show (((((((((ns + 0) + 0) + 0) + 0) + 0) + 12) + 12) + 8) + 4) + 16 ≤ 15096 by omega⟩) hw hA (fun X27 H locs hsb hw => ?_)
            refine lv_astore (lv' := [(4, .ref h), (3, .int 0), (2, .ref qp), (0, .ref (E.a 52)), (1, .int a1)]) hx hb dL_areMade_173 hl (by decide) rfl (fun ls hl => ?_)
            refine lv_iconst (v := 0) hx hb dL_areMade_175 (by decide) ?_
            refine lv_istore (lv' := [(5, .int 0), (4, .ref h), (3, .int 0), (2, .ref qp), (0, .ref (E.a 52)), (1, .int a1)]) hx hb dL_areMade_176 hl (by decide) rfl (fun ls hl => ?_)
            exact h178 xF9 a1 0 0 (fun _ => 0) 0 (fun _ => 0) σ26 _ _ _ ((((((((((nc + 0) + 0) + 0) + 0) + 0) + 2) + 2) + 1) + 1) + 1) ((((((((((ns + 0) + 0) + 0) + 0) + 0) + 12) + 12) + 8) + 4) + 16) _ _ _ hsb hw (lv_sub hl [4, 5, 3, 2, 1, 0] rfl) hf (by omega) (by omega)
          · replace hf := xif_neg c154 hf
            refine lv_iconst (v := 0) hx hb dL_areMade_157 (by decide) ?_
            exact x_Lzretc hx hb hr hlk hw (by decide) hf (show (((((((nc + 0) + 0) + 0) + 0) + 0) + 2) + 2) ≤ 536 by omega) (show (((((((ns + 0) + 0) + 0) + 0) + 0) + 12) + 12) ≤ 15096 by omega) dL_areMade_158
  refine lv_aload_n hx hb dL_areMade_0 rfl (lv_at hl 0 rfl) ?_
  refine lv_iconst (v := 1) hx hb dL_areMade_1 (by decide) ?_
  refine lv_aload_n hx hb dL_areMade_2 rfl (lv_at hl 0 rfl) ?_
  refine x_getr hx hb hw (cL52 hE) (own := RL) (ref := RL) (C := RL) (T := TL) (N := 10) hts hiL hown rfl 1 (by decide) hk34 (fun _ h9 => h9) rfl dL_areMade_3 ?_
  refine lv_iconst (v := 4) hx hb dL_areMade_6 (by decide) ?_
  obtain ⟨r1, σ2, hcl, hf⟩ := xc2_f hf
  refine x_callLi (va_runV (As := [.int 4]) (rest := [.int 1, .ref (E.a 52)]) ⟨hx, hb, hml, hown, hts⟩ (mX12_next hl0 hE 4 σ r1 σ2 hcl s.heap.size) (cwV 1 hts gL_areMade_X12_next rfl rfl rfl (by decide +kernel) ⟨Nat.le_of_ble_eq_true rfl, Nat.le_of_ble_eq_true rfl⟩) (x_preLV _ hw hA hGL (cL53 hE) rfl) rfl rfl hl.1 rfl (lv_room (Nat.le_of_ble_eq_true rfl)) dL_areMade_7 ⟨show 0 + 0 ≤ 536 by omega, show 0 + 0 ≤ 15096 by omega⟩) hw hA (fun H locs hw => ?_)
  clear hcl
  refine lv_iadd hx hb dL_areMade_10 ?_
  refine x_puti hx hb hw (cL52 hE) (own := RL) (ref := RL) (C := RL) (T := TL) (N := 10) hts hiL tyL tyL_ok nmL hown rfl 2 (by decide) hk62 (fun _ h9 => h9) rfl (by decide +kernel) rfl dL_areMade_11 (fun σ3 H locs ex hw => ?_)
  replace hf := xp_f hf σ3 ex
  clear ex
  refine lv_iconst (v := 0) hx hb dL_areMade_14 (by decide) ?_
  refine lv_istore_n (lv' := [(1, .int 0), (0, .ref (E.a 52))]) hx hb dL_areMade_15 rfl hl (by decide) rfl (fun ls hl => ?_)
  exact h16 xF5 0 σ3 _ _ _ (0 + 0) (0 + 0) hw (lv_sub hl [1, 0] rfl) hf (by omega) (by omega)
