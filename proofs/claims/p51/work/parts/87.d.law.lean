def fL_type_c52 (nt : Nat) (tt : Nat → Nat) (k2 : (Int32 → xSt → Option (Int32 × xSt))) (a2 : Int32) (a3 : Int64) (σ : xSt) : Option (Int32 × xSt) := (xco (fX11_type a3 σ) σ fun r4 σ5 => (xl (a2 + 8) fun v6 => k2 v6 σ5))
def fL_type_c15 (nt : Nat) (tt : Nat → Nat) (k2 : (Int32 → xSt → Option (Int32 × xSt))) : Nat → Int32 → Int64 → Int32 → xSt → Option (Int32 × xSt)
  | 0 => fun _ _ _ _ => none
  | n + 1 => fun a2 a3 a5 σ => (if (nI nt) ≤ a5 then fL_type_c52 nt tt k2 a2 a3 σ else (if (a2 + 8) ≤ a5 then fL_type_c52 nt tt k2 a2 a3 σ else (xrs (fun j9 => nI (tt j9)) nt a5 fun v1 => (xl ((a3 <<< (Int32.toInt64 8 &&& 63)) ||| (Int32.toInt64 v1)) fun v2 => (xl (a5 + 1) fun v3 => fL_type_c15 nt tt k2 n a2 v2 v3 σ)))))
theorem fL_type_c15_s (nt : Nat) (tt : Nat → Nat) (k2 : (Int32 → xSt → Option (Int32 × xSt))) (n : Nat) (a2 : Int32) (a3 : Int64) (a5 : Int32) (σ : xSt) : fL_type_c15 nt tt k2 (n + 1) a2 a3 a5 σ = ((if (nI nt) ≤ a5 then fL_type_c52 nt tt k2 a2 a3 σ else (if (a2 + 8) ≤ a5 then fL_type_c52 nt tt k2 a2 a3 σ else (xrs (fun j9 => nI (tt j9)) nt a5 fun v1 => (xl ((a3 <<< (Int32.toInt64 8 &&& 63)) ||| (Int32.toInt64 v1)) fun v2 => (xl (a5 + 1) fun v3 => fL_type_c15 nt tt k2 n a2 v2 v3 σ))))) : Option (Int32 × xSt)) := rfl
def fL_type_c2 (nt : Nat) (tt : Nat → Nat) : Nat → Int32 → xSt → Option (Int32 × xSt)
  | 0 => fun _ _ => none
  | n + 1 => fun a2 σ => (if (nI nt) ≤ a2 then some (0, σ) else fL_type_c15 nt tt (fL_type_c2 nt tt n) xFU a2 0 a2 σ)
theorem fL_type_c2_s (nt : Nat) (tt : Nat → Nat) (n : Nat) (a2 : Int32) (σ : xSt) : fL_type_c2 nt tt (n + 1) a2 σ = ((if (nI nt) ≤ a2 then some (0, σ) else fL_type_c15 nt tt (fL_type_c2 nt tt n) xFU a2 0 a2 σ) : Option (Int32 × xSt)) := rfl
def fL_type (nt : Nat) (tt : Nat → Nat) (σ : xSt) : Option (Int32 × xSt) := fL_type_c2 nt tt xF8 0 σ
abbrev rmL_type : Room := { frames := 8, cells := 16, slots := 96, locals := 141 }
set_option maxRecDepth 100000 in
set_option maxHeartbeats 8000000 in
theorem mL_type {l : Launch} (hl0 : l.stackTraces = false) {E : xE} (hE : xLE E) {X : va_W} (q q2 : Nat) {h v nt : Nat} {tt : Nat → Nat} {a : Nat → Int32} (hq : X[q]? = some (h, soO v)) (hq2 : X[q2]? = some (v, xBytes (E.g.2.2 21) nt a)) (hn : nt ≤ 1000) (hL : sb_Lat tt nt a) (σ : xSt) (o1 : Int32) (o2 : xSt) (hf : fL_type nt tt σ = some (o1, o2)) : xLv l yL_type wsL_type rmL_type (xPlus E X) [.ref (E.a 52), .ref h] σ o2 16 96 := by
  unfold fL_type at hf
  intro sz
  refine xJ_of (QF := fun B => xQv (xPlus E X) B o2) sz (cc := cL_type) (maxL := 6) (ret := none) (by decide) rfl (Nat.le_of_ble_eq_true rfl) ?_
  intro p e s m args below meth c A ls ⟨hx, hb, hr, hml, hown, hts, hlk⟩ hnm hA hGL hw hl
  have hG := hGL.1
  have eF8 : xF8 = 8 := rfl
  have hown : s.vm.findClass RL = some m.cls := hown
  have hl : lv_has ls 6 [(0, .ref (E.a 52)), (1, .ref h)] := hl
  have hk10 := hts (.fieldLink RL 10 "OvenRoundLaw" "o" "LOvenRound;") (by decide +kernel)
  have hiL : ∀ w ∈ wsL0, w ∈ wsL_type := by decide +kernel
  have h2 : ∀ (n : Nat) (a2 : Int32) (σ : xSt) (H : Heap) (locs : List Loc) (ls : Array Slot) (nc ns : Nat), xw (xPlus E X) A s.heap s σ H locs → lv_has ls 6 [(0, .ref (E.a 52)), (1, .ref h), (2, .int a2)] → fL_type_c2 nt tt n a2 σ = some (o1, o2) → nc + (0 + 2 * n) ≤ 16 → ns + (0 + 12 * n) ≤ 96 → W p l e rmL_type s m args below meth c H locs nc ns (MQ below (xQv (xPlus E X) A o2) args s 16 96 A) (F0 m 2 ls []) := by
    intro n2
    induction n2 with
    | zero => intro a2 σ H locs ls nc ns hw hl hf hnc hns; exact nomatch hf
    | succ n2 ih2 =>
      have h52 : ∀ (a2 : Int32) (a3 : Int64) (σ : xSt) (H : Heap) (locs : List Loc) (ls : Array Slot) (nc ns : Nat), xw (xPlus E X) A s.heap s σ H locs → lv_has ls 6 [(0, .ref (E.a 52)), (1, .ref h), (2, .int a2), (3, .long a3)] → fL_type_c52 nt tt (fL_type_c2 nt tt n2) a2 a3 σ = some (o1, o2) → nc + (2 + 2 * n2) ≤ 16 → ns + (12 + 12 * n2) ≤ 96 → W p l e rmL_type s m args below meth c H locs nc ns (MQ below (xQv (xPlus E X) A o2) args s 16 96 A) (F0 m 52 ls []) := by
        intro a2 a3 σ H locs ls nc ns hw hl hf hnc hns
        unfold fL_type_c52 at hf
        refine lv_aload_n hx hb dL_type_52 rfl (lv_at hl 0 rfl) ?_
        refine x_getr hx hb hw (cL52 (xPlus_LE hE)) (own := RL) (ref := RL) (C := RL) (T := TL) (N := 10) hts hiL hown rfl 0 (by decide) hk10 (fun _ h9 => h9) rfl dL_type_53 ?_
        refine lv_lload_n hx hb dL_type_56 rfl (lv_at hl 3 rfl) ?_
        obtain ⟨r4, τ9, hcl, hf⟩ := xco_g hf
        refine x_tcallo (vx_runV (As := [.long a3]) (rest := []) ⟨hx, hb, hml, hown, hts⟩ (mX11_type hl0 (E := xCut (xPlus E X) σ) rfl a3 σ (.inl r4) τ9 hcl H.size) (cwV 1 hts gL_type_X11_type rfl rfl rfl (by decide +kernel) ⟨Nat.le_of_ble_eq_true rfl, Nat.le_of_ble_eq_true rfl⟩) (x_preV _ (xw_cut (xPlus_LE hE) hw) hA hG (cX0 (E := xCut (xPlus E X) σ) rfl) rfl) rfl rfl hl.1 rfl (lv_room (Nat.le_of_ble_eq_true rfl)) dL_type_57 ⟨show nc + 2 ≤ 16 by omega, show ns + 12 ≤ 96 by omega⟩) (xw_cut (xPlus_LE hE) hw) hA (fun H locs hw => ?_)
        obtain ⟨σ5, eρ, hw⟩ := xw_unc2 (xPlus_LE hE) hw
        replace hf := hf σ5 eρ
        clear eρ hcl
        refine lv_istore (lv' := [(5, .int r4), (0, .ref (E.a 52)), (1, .ref h), (2, .int a2), (3, .long a3)]) hx hb dL_type_60 hl (by decide) rfl (fun ls hl => ?_)
        obtain ⟨v6, ex⟩ : ∃ y : Int32, y = (a2 + 8) := ⟨_, rfl⟩
        replace hf := xl_f hf v6 ex
        refine lv_iinc (v := v6) (lv' := [(2, .int v6), (5, .int r4), (0, .ref (E.a 52)), (1, .ref h), (3, .long a3)]) hx hb dL_type_62 hl (k := 3) rfl (by rw [ex]; rfl) (by decide) rfl (fun ls hl => ?_)
        clear ex
        refine lv_goto (tgt := 2) hx hb dL_type_65 (by decide) ?_
        exact ih2 v6 σ5 _ _ _ (nc + 2) (ns + 12) hw (lv_sub hl [2, 3, 0] rfl) hf (by omega) (by omega)
      have h15 : ∀ (n : Nat) (a2 : Int32) (a3 : Int64) (a5 : Int32) (σ : xSt) (H : Heap) (locs : List Loc) (ls : Array Slot) (nc ns : Nat), xw (xPlus E X) A s.heap s σ H locs → lv_has ls 6 [(0, .ref (E.a 52)), (1, .ref h), (2, .int a2), (3, .long a3), (5, .int a5)] → fL_type_c15 nt tt (fL_type_c2 nt tt n2) n a2 a3 a5 σ = some (o1, o2) → nc + (2 + 2 * n2) ≤ 16 → ns + (12 + 12 * n2) ≤ 96 → W p l e rmL_type s m args below meth c H locs nc ns (MQ below (xQv (xPlus E X) A o2) args s 16 96 A) (F0 m 15 ls []) := by
        intro n15
        induction n15 with
        | zero => intro a2 a3 a5 σ H locs ls nc ns hw hl hf hnc hns; exact nomatch hf
        | succ n15 ih15 =>
          intro a2 a3 a5 σ H locs ls nc ns hw hl hf hnc hns
          rw [fL_type_c15_s] at hf
          refine lv_iload hx hb dL_type_15 (lv_at hl 4 rfl) ?_
          refine lv_aload_n hx hb dL_type_17 rfl (lv_at hl 1 rfl) ?_
          refine x_callLi (va_runV (As := []) (rest := [.int a5]) ⟨hx, hb, hml, hown, hts⟩ (mJ0_lengthM q q2 hq hq2 σ H.size) (cwV 0 hts gL_type_J0_length_8abf5 rfl rfl rfl (by decide +kernel) ⟨Nat.le_of_ble_eq_true rfl, Nat.le_of_ble_eq_true rfl⟩) (x_preLX _ hw hA hGL (q := q) hq rfl) rfl rfl hl.1 rfl (lv_room (Nat.le_of_ble_eq_true rfl)) dL_type_18 ⟨show nc + 0 ≤ 16 by omega, show ns + 0 ≤ 96 by omega⟩) hw hA (fun H locs hw => ?_)
          refine lv_icmp_ge (tgt := 52) hx hb dL_type_21 (by decide) (fun c21 => ?_) (fun c21 => ?_)
          · replace hf := xif_pos c21 hf
            exact h52 a2 a3 σ _ _ _ (nc + 0) (ns + 0) hw (lv_sub hl [0, 1, 2, 3] rfl) hf (by omega) (by omega)
          · replace hf := xif_neg c21 hf
            refine lv_iload hx hb dL_type_24 (lv_at hl 4 rfl) ?_
            refine lv_iload_n hx hb dL_type_26 rfl (lv_at hl 2 rfl) ?_
            refine lv_bipush (v := 8) hx hb dL_type_27 (by decide) ?_
            refine lv_iadd hx hb dL_type_29 ?_
            refine lv_icmp_ge (tgt := 52) hx hb dL_type_30 (by decide) (fun c30 => ?_) (fun c30 => ?_)
            · replace hf := xif_pos c30 hf
              exact h52 a2 a3 σ _ _ _ (nc + 0) (ns + 0) hw (lv_sub hl [0, 1, 2, 3] rfl) hf (by omega) (by omega)
            · replace hf := xif_neg c30 hf
              refine lv_lload_n hx hb dL_type_33 rfl (lv_at hl 3 rfl) ?_
              refine lv_bipush (v := 8) hx hb dL_type_34 (by decide) ?_
              refine lv_lshl hx hb dL_type_36 rfl ?_
              refine lv_aload_n hx hb dL_type_37 rfl (lv_at hl 1 rfl) ?_
              refine lv_iload hx hb dL_type_38 (lv_at hl 4 rfl) ?_
              obtain ⟨hin, hf⟩ := xrs_f hf
              refine x_callLi (va_runV (As := [.int a5]) (rest := [.long (a3 <<< (Int32.toInt64 8 &&& 63))]) ⟨hx, hb, hml, hown, hts⟩ (mCharAt q q2 hq hq2 hn hL hin σ H.size) (cwV 1 hts gL_type_J0_charAt_5068e rfl rfl rfl (by decide +kernel) ⟨Nat.le_of_ble_eq_true rfl, Nat.le_of_ble_eq_true rfl⟩) (x_preLX _ hw hA hGL (q := q) hq rfl) rfl rfl hl.1 rfl (lv_room (Nat.le_of_ble_eq_true rfl)) dL_type_40 ⟨show (nc + 0) + 0 ≤ 16 by omega, show (ns + 0) + 0 ≤ 96 by omega⟩) hw hA (fun H locs hw => ?_)
              refine lv_topi (fun v1 ex => ?_)
              replace hf := hf v1 ex
              clear ex hin
              refine lv_i2l hx hb dL_type_43 rfl ?_
              refine lv_lor hx hb dL_type_44 ?_
              refine lv_topl (fun v2 ex => ?_)
              replace hf := xl_f hf v2 ex
              clear ex
              refine lv_lstore_n (lv' := [(3, .long v2), (0, .ref (E.a 52)), (1, .ref h), (2, .int a2), (5, .int a5)]) hx hb dL_type_45 rfl hl (by decide) rfl (fun ls hl => ?_)
              obtain ⟨v3, ex⟩ : ∃ y : Int32, y = (a5 + 1) := ⟨_, rfl⟩
              replace hf := xl_f hf v3 ex
              refine lv_iinc (v := v3) (lv' := [(5, .int v3), (3, .long v2), (0, .ref (E.a 52)), (1, .ref h), (2, .int a2)]) hx hb dL_type_46 hl (k := 4) rfl (by rw [ex]; rfl) (by decide) rfl (fun ls hl => ?_)
              clear ex
              refine lv_goto (tgt := 15) hx hb dL_type_49 (by decide) ?_
              exact ih15 a2 v2 v3 σ _ _ _ ((nc + 0) + 0) ((ns + 0) + 0) hw (lv_sub hl [2, 3, 4, 1, 0] rfl) hf (by omega) (by omega)
      intro a2 σ H locs ls nc ns hw hl hf hnc hns
      rw [fL_type_c2_s] at hf
      refine lv_iload_n hx hb dL_type_2 rfl (lv_at hl 2 rfl) ?_
      refine lv_aload_n hx hb dL_type_3 rfl (lv_at hl 1 rfl) ?_
      refine x_callLi (va_runV (As := []) (rest := [.int a2]) ⟨hx, hb, hml, hown, hts⟩ (mJ0_lengthM q q2 hq hq2 σ H.size) (cwV 0 hts gL_type_J0_length_8abf5 rfl rfl rfl (by decide +kernel) ⟨Nat.le_of_ble_eq_true rfl, Nat.le_of_ble_eq_true rfl⟩) (x_preLX _ hw hA hGL (q := q) hq rfl) rfl rfl hl.1 rfl (lv_room (Nat.le_of_ble_eq_true rfl)) dL_type_4 ⟨show nc + 0 ≤ 16 by omega, show ns + 0 ≤ 96 by omega⟩) hw hA (fun H locs hw => ?_)
      refine lv_icmp_ge (tgt := 68) hx hb dL_type_7 (by decide) (fun c7 => ?_) (fun c7 => ?_)
      · replace hf := xif_pos c7 hf
        exact x_Lvret hx hb hr hlk hw hf (show (nc + 0) ≤ 16 by omega) (show (ns + 0) ≤ 96 by omega) dL_type_68
      · replace hf := xif_neg c7 hf
        refine lv_lconst (v := 0) hx hb dL_type_10 (by decide) ?_
        refine lv_lstore_n (lv' := [(3, .long 0), (0, .ref (E.a 52)), (1, .ref h), (2, .int a2)]) hx hb dL_type_11 rfl hl (by decide) rfl (fun ls hl => ?_)
        refine lv_iload_n hx hb dL_type_12 rfl (lv_at hl 3 rfl) ?_
        refine lv_istore (lv' := [(5, .int a2), (3, .long 0), (0, .ref (E.a 52)), (1, .ref h), (2, .int a2)]) hx hb dL_type_13 hl (by decide) rfl (fun ls hl => ?_)
        exact h15 xFU a2 0 a2 σ _ _ _ (nc + 0) (ns + 0) hw (lv_sub hl [2, 3, 4, 1, 0] rfl) hf (by omega) (by omega)
  refine lv_iconst (v := 0) hx hb dL_type_0 (by decide) ?_
  refine lv_istore_n (lv' := [(2, .int 0), (0, .ref (E.a 52)), (1, .ref h)]) hx hb dL_type_1 rfl hl (by decide) rfl (fun ls hl => ?_)
  exact h2 xF8 0 σ _ _ _ 0 0 hw (lv_sub hl [1, 2, 0] rfl) hf (by omega) (by omega)
