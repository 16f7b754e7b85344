def fX12_rowAt (p0 : Int32) (p1 : Int32) (σ : xSt) : Option (Int32 × xSt) := (xc2 (fX12_isSet p0 σ) fun r1 σ2 => (xc2 (fX12_can r1 1 σ2) fun r3 σ4 => (if r3 = 0 then some (0, σ4) else (xc (fX12_rows p0 σ4) fun σ6 => (xc2 (fX12_in p1 0 ((σ6 0 18) - 1) σ6) fun r7 σ8 => (xc2 (fX12_can r7 2 σ8) fun r9 σ10 => (if r9 = 0 then some (0, σ10) else (xr σ10 12 8 p1 fun v11 => some (v11, σ10)))))))))
abbrev rmX12_rowAt : Room := { frames := 3, cells := 0, slots := 0, locals := 70 }
set_option maxRecDepth 100000 in
set_option maxHeartbeats 4000000 in
theorem mX12_rowAt {l : Launch} {E : xE} (hE : E.sh = shM) (p0 : Int32) (p1 : Int32) (σ : xSt) (o1 : Int32) (o2 : xSt) (hf : fX12_rowAt p0 p1 σ = some (o1, o2)) : xMi l yX12_rowAt wsX12_rowAt rmX12_rowAt E [.ref (E.a 0), .int p0, .int p1] σ o1 o2 := by
  unfold fX12_rowAt at hf
  refine xMi_of (cc := cX12_rowAt) (maxL := 3) (ret := (some .int)) (by decide) rfl (Nat.le_of_ble_eq_true rfl) ?_
  intro p e s m args below meth c A ls ⟨hx, hb, hr, hml, hown, hts, hlk⟩ hA hG hw hl
  have hown : s.vm.findClass RX12 = some m.cls := hown
  have hl : lv_has ls 3 [(0, .ref (E.a 0)), (1, .int p0), (2, .int p1)] := hl
  have hk203 := hts (.fieldLink RX12 203 "OvenRoundModel" "many" "I") (by decide +kernel)
  have hiX12 : ∀ w ∈ wsX120, w ∈ wsX12_rowAt := by decide +kernel
  have hk43 := hts (.fieldLink RX12 43 "OvenRoundModel" "bestRow" "[I") (by decide +kernel)
  refine lv_aload_n hx hb dX12_rowAt_0 rfl (lv_at hl 0 rfl) ?_
  refine lv_aload_n hx hb dX12_rowAt_1 rfl (lv_at hl 0 rfl) ?_
  refine lv_iload_n hx hb dX12_rowAt_2 rfl (lv_at hl 1 rfl) ?_
  obtain ⟨r1, σ2, hcl, hf⟩ := xc2_f hf
  refine x_calli (va_runV (As := [.int p0]) (rest := [.ref (E.a 0)]) ⟨hx, hb, hml, hown, hts⟩ (mX12_isSet hE p0 σ r1 σ2 hcl s.heap.size) (cwV 1 hts gX12_rowAt_X12_isSet rfl rfl rfl (by decide +kernel) ⟨Nat.le_of_ble_eq_true rfl, Nat.le_of_ble_eq_true rfl⟩) (x_preV _ hw hA hG (cM0 hE) rfl) rfl rfl hl.1 rfl (lv_room (Nat.le_of_ble_eq_true rfl)) dX12_rowAt_3 ⟨Nat.le_of_ble_eq_true rfl, Nat.le_of_ble_eq_true rfl⟩) hw hA (fun H locs hw => ?_)
  clear hcl
  refine lv_iconst (v := 1) hx hb dX12_rowAt_6 (by decide) ?_
  obtain ⟨r3, σ4, hcl, hf⟩ := xc2_f hf
  refine x_calli (va_runV (As := [.int r1, .int 1]) (rest := []) ⟨hx, hb, hml, hown, hts⟩ (mX12_can hE r1 1 σ2 r3 σ4 hcl H.size) (cwV 2 hts gX12_rowAt_X12_can rfl rfl rfl (by decide +kernel) ⟨Nat.le_of_ble_eq_true rfl, Nat.le_of_ble_eq_true rfl⟩) (x_preV _ hw hA hG (cM0 hE) rfl) rfl rfl hl.1 rfl (lv_room (Nat.le_of_ble_eq_true rfl)) dX12_rowAt_7 ⟨Nat.le_of_ble_eq_true rfl, Nat.le_of_ble_eq_true rfl⟩) hw hA (fun H locs hw => ?_)
  clear hcl
  refine lv_if_ne (tgt := 15) hx hb dX12_rowAt_10 (by decide) (fun c10 => ?_) (fun c10 => ?_)
  · replace hf := xif_neg c10 hf
    refine lv_aload_n hx hb dX12_rowAt_15 rfl (lv_at hl 0 rfl) ?_
    refine lv_iload_n hx hb dX12_rowAt_16 rfl (lv_at hl 1 rfl) ?_
    obtain ⟨σ6, hcl, hf⟩ := xc_e hf
    refine x_callv (va_runV (As := [.int p0]) (rest := []) ⟨hx, hb, hml, hown, hts⟩ (mX12_rows hE p0 σ4 σ6 hcl H.size) (cwV 1 hts gX12_rowAt_X12_rows rfl rfl rfl (by decide +kernel) ⟨Nat.le_of_ble_eq_true rfl, Nat.le_of_ble_eq_true rfl⟩) (x_preV _ hw hA hG (cM0 hE) rfl) rfl rfl hl.1 rfl (lv_room (Nat.le_of_ble_eq_true rfl)) dX12_rowAt_17 ⟨Nat.le_of_ble_eq_true rfl, Nat.le_of_ble_eq_true rfl⟩) hw hA (fun H locs hw => ?_)
    clear hcl
    refine lv_aload_n hx hb dX12_rowAt_20 rfl (lv_at hl 0 rfl) ?_
    refine lv_iload_n hx hb dX12_rowAt_21 rfl (lv_at hl 2 rfl) ?_
    refine lv_iconst (v := 0) hx hb dX12_rowAt_22 (by decide) ?_
    refine lv_aload_n hx hb dX12_rowAt_23 rfl (lv_at hl 0 rfl) ?_
    refine x_geti hx hb hw (cM0 hE) (own := RX12) (ref := RX12) (C := RX12) (T := TX12) (N := 20) hts hiX12 hown rfl 18 (by decide) hk203 (fun _ h9 => h9) rfl dX12_rowAt_24 ?_
    refine lv_iconst (v := 1) hx hb dX12_rowAt_27 (by decide) ?_
    refine lv_isub hx hb dX12_rowAt_28 ?_
    obtain ⟨r7, σ8, hcl, hf⟩ := xc2_f hf
    refine x_calli (va_runS (As := [.int p1, .int 0, .int ((σ6 0 18) - 1)]) (rest := [.ref (E.a 0)]) ⟨hx, hb, hml, hown, hts⟩ (mX12_in hE p1 0 ((σ6 0 18) - 1) σ6 r7 σ8 hcl H.size) (va_cwS 3 hts gX12_rowAt_X12_in rfl rfl rfl (by decide +kernel) ⟨Nat.le_of_ble_eq_true rfl, Nat.le_of_ble_eq_true rfl⟩) (x_preS _ hw hA hG) rfl rfl hl.1 rfl (lv_room (Nat.le_of_ble_eq_true rfl)) dX12_rowAt_29 ⟨Nat.le_of_ble_eq_true rfl, Nat.le_of_ble_eq_true rfl⟩) hw hA (fun H locs hw => ?_)
    clear hcl
    refine lv_iconst (v := 2) hx hb dX12_rowAt_32 (by decide) ?_
    obtain ⟨r9, σ10, hcl, hf⟩ := xc2_f hf
    refine x_calli (va_runV (As := [.int r7, .int 2]) (rest := []) ⟨hx, hb, hml, hown, hts⟩ (mX12_can hE r7 2 σ8 r9 σ10 hcl H.size) (cwV 2 hts gX12_rowAt_X12_can rfl rfl rfl (by decide +kernel) ⟨Nat.le_of_ble_eq_true rfl, Nat.le_of_ble_eq_true rfl⟩) (x_preV _ hw hA hG (cM0 hE) rfl) rfl rfl hl.1 rfl (lv_room (Nat.le_of_ble_eq_true rfl)) dX12_rowAt_33 ⟨Nat.le_of_ble_eq_true rfl, Nat.le_of_ble_eq_true rfl⟩) hw hA (fun H locs hw => ?_)
    clear hcl
    refine lv_if_eq (tgt := 48) hx hb dX12_rowAt_36 (by decide) (fun c36 => ?_) (fun c36 => ?_)
    · replace hf := xif_pos c36 hf
      refine lv_iconst (v := 0) hx hb dX12_rowAt_48 (by decide) ?_
      exact x_iret hx hb hr hlk hw hf dX12_rowAt_49
    · replace hf := xif_neg c36 hf
      refine lv_aload_n hx hb dX12_rowAt_39 rfl (lv_at hl 0 rfl) ?_
      refine x_getr hx hb hw (cM0 hE) (own := RX12) (ref := RX12) (C := RX12) (T := TX12) (N := 20) hts hiX12 hown rfl 17 (by decide) hk43 (fun _ h9 => h9) rfl dX12_rowAt_40 ?_
      refine lv_iload_n hx hb dX12_rowAt_43 rfl (lv_at hl 2 rfl) ?_
      obtain ⟨hin, hf⟩ := xr_f hf
      refine x_iald hx hb hw (cM12 hE) hin dX12_rowAt_44 ?_
      refine lv_topi (fun v11 ex => ?_)
      replace hf := hf v11 ex
      clear ex hin
      refine lv_goto (tgt := 49) hx hb dX12_rowAt_45 (by decide) ?_
      exact x_iret hx hb hr hlk hw hf dX12_rowAt_49
  · replace hf := xif_pos c10 hf
    refine lv_iconst (v := 0) hx hb dX12_rowAt_13 (by decide) ?_
    exact x_iret hx hb hr hlk hw hf dX12_rowAt_14

def fX12_inDoughs_c46 (k4 : (Int32 → Int32 → Int32 → xSt → Option (Int32 × xSt))) (a1 : Int32) (a2 : Int32) (a3 : Int32) (t0 : Int32) (σ : xSt) : Option (Int32 × xSt) := (if t0 = 0 then (xl (a2 + 0) fun v5 => (xl (a3 + 1) fun v6 => k4 a1 v5 v6 σ)) else (xc2 (fX12_gramsOf a3 σ) fun r7 σ8 => (xl (a2 + r7) fun v9 => (xl (a3 + 1) fun v10 => k4 a1 v9 v10 σ8))))
def fX12_inDoughs_c4 : Nat → Int32 → Int32 → Int32 → xSt → Option (Int32 × xSt)
  | 0 => fun _ _ _ _ => none
  | n + 1 => fun a1 a2 a3 σ => (xr σ 1 680 6 fun v1 => (if v1 ≤ a3 then some (a2, σ) else (if a1 = 0 then (xc2 (fX12_isAtHand a3 σ) fun r2 σ3 => fX12_inDoughs_c46 (fX12_inDoughs_c4 n) a1 a2 a3 r2 σ3) else (xr σ 1 680 (163 + a3) fun v4 => (if v4 = 2 then fX12_inDoughs_c46 (fX12_inDoughs_c4 n) a1 a2 a3 1 σ else fX12_inDoughs_c46 (fX12_inDoughs_c4 n) a1 a2 a3 0 σ)))))
theorem fX12_inDoughs_c4_s (n : Nat) (a1 : Int32) (a2 : Int32) (a3 : Int32) (σ : xSt) : fX12_inDoughs_c4 (n + 1) a1 a2 a3 σ = ((xr σ 1 680 6 fun v1 => (if v1 ≤ a3 then some (a2, σ) else (if a1 = 0 then (xc2 (fX12_isAtHand a3 σ) fun r2 σ3 => fX12_inDoughs_c46 (fX12_inDoughs_c4 n) a1 a2 a3 r2 σ3) else (xr σ 1 680 (163 + a3) fun v4 => (if v4 = 2 then fX12_inDoughs_c46 (fX12_inDoughs_c4 n) a1 a2 a3 1 σ else fX12_inDoughs_c46 (fX12_inDoughs_c4 n) a1 a2 a3 0 σ))))) : Option (Int32 × xSt)) := rfl
def fX12_inDoughs (p0 : Int32) (σ : xSt) : Option (Int32 × xSt) := fX12_inDoughs_c4 xFU p0 0 0 σ
abbrev rmX12_inDoughs : Room := { frames := 1, cells := 0, slots := 0, locals := 21 }
set_option maxRecDepth 100000 in
set_option maxHeartbeats 4000000 in
theorem mX12_inDoughs {l : Launch} {E : xE} (hE : E.sh = shM) (p0 : Int32) (σ : xSt) (o1 : Int32) (o2 : xSt) (hf : fX12_inDoughs p0 σ = some (o1, o2)) : xMi l yX12_inDoughs wsX12_inDoughs rmX12_inDoughs E [.ref (E.a 0), .int p0] σ o1 o2 := by
  unfold fX12_inDoughs at hf
  refine xMi_of (cc := cX12_inDoughs) (maxL := 5) (ret := (some .int)) (by decide) rfl (Nat.le_of_ble_eq_true rfl) ?_
  intro p e s m args below meth c A ls ⟨hx, hb, hr, hml, hown, hts, hlk⟩ hA hG hw hl
  have hown : s.vm.findClass RX12 = some m.cls := hown
  have hl : lv_has ls 5 [(0, .ref (E.a 0)), (1, .int p0)] := hl
  have hk9 := hts (.fieldLink RX12 9 "OvenRoundModel" "w" "[I") (by decide +kernel)
  have hiX12 : ∀ w ∈ wsX120, w ∈ wsX12_inDoughs := by decide +kernel
  have h4 : ∀ (n : Nat) (a1 : Int32) (a2 : Int32) (a3 : Int32) (σ : xSt) (H : Heap) (locs : List Loc) (ls : Array Slot), xw E A s.heap s σ H locs → lv_has ls 5 [(0, .ref (E.a 0)), (1, .int a1), (2, .int a2), (3, .int a3)] → fX12_inDoughs_c4 n a1 a2 a3 σ = some (o1, o2) → W p l e rmX12_inDoughs s m args below meth c H locs 0 0 (MQ below (xQi E A o1 o2) args s 0 0 A) (F0 m 4 ls []) := by
    intro n4
    induction n4 with
    | zero => intro a1 a2 a3 σ H locs ls hw hl hf; exact nomatch hf
    | succ n4 ih4 =>
      have h46 : ∀ (a1 : Int32) (a2 : Int32) (a3 : Int32) (t0 : Int32) (σ : xSt) (H : Heap) (locs : List Loc) (ls : Array Slot), xw E A s.heap s σ H locs → lv_has ls 5 [(0, .ref (E.a 0)), (1, .int a1), (2, .int a2), (3, .int a3)] → fX12_inDoughs_c46 (fX12_inDoughs_c4 n4) a1 a2 a3 t0 σ = some (o1, o2) → W p l e rmX12_inDoughs s m args below meth c H locs 0 0 (MQ below (xQi E A o1 o2) args s 0 0 A) (F0 m 46 ls [.int t0]) := by
        intro a1 a2 a3 t0 σ H locs ls hw hl hf
        unfold fX12_inDoughs_c46 at hf
        refine lv_istore (lv' := [(4, .int t0), (0, .ref (E.a 0)), (1, .int a1), (2, .int a2), (3, .int a3)]) hx hb dX12_inDoughs_46 hl (by decide) rfl (fun ls hl => ?_)
        refine lv_iload_n hx hb dX12_inDoughs_48 rfl (lv_at hl 3 rfl) ?_
        refine lv_iload hx hb dX12_inDoughs_49 (lv_at hl 0 rfl) ?_
        refine lv_if_eq (tgt := 62) hx hb dX12_inDoughs_51 (by decide) (fun c51 => ?_) (fun c51 => ?_)
        · replace hf := xif_pos c51 hf
          refine lv_iconst (v := 0) hx hb dX12_inDoughs_62 (by decide) ?_
          refine lv_iadd hx hb dX12_inDoughs_63 ?_
          refine lv_topi (fun v5 ex => ?_)
          replace hf := xl_f hf v5 ex
          clear ex
          refine lv_istore_n (lv' := [(2, .int v5), (4, .int t0), (0, .ref (E.a 0)), (1, .int a1), (3, .int a3)]) hx hb dX12_inDoughs_64 rfl hl (by decide) rfl (fun ls hl => ?_)
          obtain ⟨v6, ex⟩ : ∃ y : Int32, y = (a3 + 1) := ⟨_, rfl⟩
          replace hf := xl_f hf v6 ex
          refine lv_iinc (v := v6) (lv' := [(3, .int v6), (2, .int v5), (4, .int t0), (0, .ref (E.a 0)), (1, .int a1)]) hx hb dX12_inDoughs_65 hl (k := 4) rfl (by rw [ex]; rfl) (by decide) rfl (fun ls hl => ?_)
          clear ex
          refine lv_goto (tgt := 4) hx hb dX12_inDoughs_68 (by decide) ?_
          exact ih4 a1 v5 v6 σ _ _ _ hw (lv_sub hl [3, 4, 1, 0] rfl) hf
        · replace hf := xif_neg c51 hf
          refine lv_aload_n hx hb dX12_inDoughs_54 rfl (lv_at hl 1 rfl) ?_
          refine lv_iload_n hx hb dX12_inDoughs_55 rfl (lv_at hl 4 rfl) ?_
          obtain ⟨r7, σ8, hcl, hf⟩ := xc2_f hf
          refine x_calli (va_runV (As := [.int a3]) (rest := [.int a2]) ⟨hx, hb, hml, hown, hts⟩ (mX12_gramsOf hE a3 σ r7 σ8 hcl H.size) (cwV 1 hts gX12_inDoughs_X12_gramsOf rfl rfl rfl (by decide +kernel) ⟨Nat.le_of_ble_eq_true rfl, Nat.le_of_ble_eq_true rfl⟩) (x_preV _ hw hA hG (cM0 hE) rfl) rfl rfl hl.1 rfl (lv_room (Nat.le_of_ble_eq_true rfl)) dX12_inDoughs_56 ⟨Nat.le_of_ble_eq_true rfl, Nat.le_of_ble_eq_true rfl⟩) hw hA (fun H locs hw => ?_)
          clear hcl
          refine lv_goto (tgt := 63) hx hb dX12_inDoughs_59 (by decide) ?_
          refine lv_iadd hx hb dX12_inDoughs_63 ?_
          refine lv_topi (fun v9 ex => ?_)
          replace hf := xl_f hf v9 ex
          clear ex
          refine lv_istore_n (lv' := [(2, .int v9), (4, .int t0), (0, .ref (E.a 0)), (1, .int a1), (3, .int a3)]) hx hb dX12_inDoughs_64 rfl hl (by decide) rfl (fun ls hl => ?_)
          obtain ⟨v10, ex⟩ : ∃ y : Int32, y = (a3 + 1) := ⟨_, rfl⟩
          replace hf := xl_f hf v10 ex
          refine lv_iinc (v := v10) (lv' := [(3, .int v10), (2, .int v9), (4, .int t0), (0, .ref (E.a 0)), (1, .int a1)]) hx hb dX12_inDoughs_65 hl (k := 4) rfl (by rw [ex]; rfl) (by decide) rfl (fun ls hl => ?_)
          clear ex
          refine lv_goto (tgt := 4) hx hb dX12_inDoughs_68 (by decide) ?_
          exact ih4 a1 v9 v10 σ8 _ _ _ hw (lv_sub hl [3, 4, 1, 0] rfl) hf
      intro a1 a2 a3 σ H locs ls hw hl hf
      rw [fX12_inDoughs_c4_s] at hf
      refine lv_iload_n hx hb dX12_inDoughs_4 rfl (lv_at hl 3 rfl) ?_
      refine lv_aload_n hx hb dX12_inDoughs_5 rfl (lv_at hl 0 rfl) ?_
      refine x_getr hx hb hw (cM0 hE) (own := RX12) (ref := RX12) (C := RX12) (T := TX12) (N := 20) hts hiX12 hown rfl 1 (by decide) hk9 (fun _ h9 => h9) rfl dX12_inDoughs_6 ?_
      refine lv_bipush (v := 6) hx hb dX12_inDoughs_9 (by decide) ?_
      obtain ⟨hin, hf⟩ := xr_f hf
      refine x_iald hx hb hw (cM1 hE) hin dX12_inDoughs_11 ?_
      refine lv_topi (fun v1 ex => ?_)
      replace hf := hf v1 ex
      clear ex hin
      refine lv_icmp_ge (tgt := 71) hx hb dX12_inDoughs_12 (by decide) (fun c12 => ?_) (fun c12 => ?_)
      · replace hf := xif_pos c12 hf
        refine lv_iload_n hx hb dX12_inDoughs_71 rfl (lv_at hl 2 rfl) ?_
        exact x_iret hx hb hr hlk hw hf dX12_inDoughs_72
      · replace hf := xif_neg c12 hf
        refine lv_iload_n hx hb dX12_inDoughs_15 rfl (lv_at hl 1 rfl) ?_
        refine lv_if_eq (tgt := 41) hx hb dX12_inDoughs_16 (by decide) (fun c16 => ?_) (fun c16 => ?_)
        · replace hf := xif_pos c16 hf
          refine lv_aload_n hx hb dX12_inDoughs_41 rfl (lv_at hl 0 rfl) ?_
          refine lv_iload_n hx hb dX12_inDoughs_42 rfl (lv_at hl 3 rfl) ?_
          obtain ⟨r2, σ3, hcl, hf⟩ := xc2_f hf
          refine x_calli (va_runV (As := [.int a3]) (rest := []) ⟨hx, hb, hml, hown, hts⟩ (mX12_isAtHand hE a3 σ r2 σ3 hcl H.size) (cwV 1 hts gX12_inDoughs_X12_isAtHand rfl rfl rfl (by decide +kernel) ⟨Nat.le_of_ble_eq_true rfl, Nat.le_of_ble_eq_true rfl⟩) (x_preV _ hw hA hG (cM0 hE) rfl) rfl rfl hl.1 rfl (lv_room (Nat.le_of_ble_eq_true rfl)) dX12_inDoughs_43 ⟨Nat.le_of_ble_eq_true rfl, Nat.le_of_ble_eq_true rfl⟩) hw hA (fun H locs hw => ?_)
          clear hcl
          exact h46 a1 a2 a3 r2 σ3 _ _ _ hw (lv_sub hl [0, 1, 2, 3] rfl) hf
        · replace hf := xif_neg c16 hf
          refine lv_aload_n hx hb dX12_inDoughs_19 rfl (lv_at hl 0 rfl) ?_
          refine x_getr hx hb hw (cM0 hE) (own := RX12) (ref := RX12) (C := RX12) (T := TX12) (N := 20) hts hiX12 hown rfl 1 (by decide) hk9 (fun _ h9 => h9) rfl dX12_inDoughs_20 ?_
          refine lv_sipush (v := 163) hx hb dX12_inDoughs_23 (by decide) ?_
          refine lv_iload_n hx hb dX12_inDoughs_26 rfl (lv_at hl 3 rfl) ?_
          refine lv_iadd hx hb dX12_inDoughs_27 ?_
          obtain ⟨hin, hf⟩ := xr_f hf
          refine x_iald hx hb hw (cM1 hE) hin dX12_inDoughs_28 ?_
          refine lv_topi (fun v4 ex => ?_)
          replace hf := hf v4 ex
          clear ex hin
          refine lv_iconst (v := 2) hx hb dX12_inDoughs_29 (by decide) ?_
          refine lv_icmp_ne (tgt := 37) hx hb dX12_inDoughs_30 (by decide) (fun c30 => ?_) (fun c30 => ?_)
          · replace hf := xif_neg c30 hf
            refine lv_iconst (v := 0) hx hb dX12_inDoughs_37 (by decide) ?_
            refine lv_goto (tgt := 46) hx hb dX12_inDoughs_38 (by decide) ?_
            exact h46 a1 a2 a3 0 σ _ _ _ hw (lv_sub hl [0, 1, 2, 3] rfl) hf
          · replace hf := xif_pos c30 hf
            refine lv_iconst (v := 1) hx hb dX12_inDoughs_33 (by decide) ?_
            refine lv_goto (tgt := 46) hx hb dX12_inDoughs_34 (by decide) ?_
            exact h46 a1 a2 a3 1 σ _ _ _ hw (lv_sub hl [0, 1, 2, 3] rfl) hf
  refine lv_iconst (v := 0) hx hb dX12_inDoughs_0 (by decide) ?_
  refine lv_istore_n (lv' := [(2, .int 0), (0, .ref (E.a 0)), (1, .int p0)]) hx hb dX12_inDoughs_1 rfl hl (by decide) rfl (fun ls hl => ?_)
  refine lv_iconst (v := 0) hx hb dX12_inDoughs_2 (by decide) ?_
  refine lv_istore_n (lv' := [(3, .int 0), (2, .int 0), (0, .ref (E.a 0)), (1, .int p0)]) hx hb dX12_inDoughs_3 rfl hl (by decide) rfl (fun ls hl => ?_)
  exact h4 xFU p0 0 0 σ _ _ _ hw (lv_sub hl [2, 3, 1, 0] rfl) hf

def fX12_book_c165 (t0 : Int32) (σ : xSt) : Option (Int32 × xSt) := (xc2 (fX12_inDoughs t0 σ) fun r17 σ18 => some (r17, σ18))
def fX12_book_c154 (a1 : Int32) (σ : xSt) : Option (Int32 × xSt) := (if a1 = 5 then fX12_book_c165 1 σ else fX12_book_c165 0 σ)
def fX12_book_c118 : Nat → Int32 → Int32 → xSt → Option (Int32 × xSt)
  | 0 => fun _ _ _ => none
  | n + 1 => fun a2 a3 σ => (xr σ 1 680 5 fun v11 => (if v11 ≤ a3 then some (a2, σ) else (xc2 (fX12_breadsOf a3 σ) fun r12 σ13 => (xr σ13 1 680 (19 + a3) fun v14 => (xl (a2 + (r12 * v14)) fun v15 => (xl (a3 + 1) fun v16 => fX12_book_c118 n v15 v16 σ13))))))
theorem fX12_book_c118_s (n : Nat) (a2 : Int32) (a3 : Int32) (σ : xSt) : fX12_book_c118 (n + 1) a2 a3 σ = ((xr σ 1 680 5 fun v11 => (if v11 ≤ a3 then some (a2, σ) else (xc2 (fX12_breadsOf a3 σ) fun r12 σ13 => (xr σ13 1 680 (19 + a3) fun v14 => (xl (a2 + (r12 * v14)) fun v15 => (xl (a3 + 1) fun v16 => fX12_book_c118 n v15 v16 σ13)))))) : Option (Int32 × xSt)) := rfl
def fX12_book_c90 : Nat → Int32 → Int32 → xSt → Option (Int32 × xSt)
  | 0 => fun _ _ _ => none
  | n + 1 => fun a2 a3 σ => (if 8 ≤ a3 then some (a2, σ) else (xr σ 1 680 (11 + a3) fun v8 => (xl (a2 + v8) fun v9 => (xl (a3 + 1) fun v10 => fX12_book_c90 n v9 v10 σ))))
theorem fX12_book_c90_s (n : Nat) (a2 : Int32) (a3 : Int32) (σ : xSt) : fX12_book_c90 (n + 1) a2 a3 σ = ((if 8 ≤ a3 then some (a2, σ) else (xr σ 1 680 (11 + a3) fun v8 => (xl (a2 + v8) fun v9 => (xl (a3 + 1) fun v10 => fX12_book_c90 n v9 v10 σ)))) : Option (Int32 × xSt)) := rfl
def fX12_book (p0 : Int32) (σ : xSt) : Option (Int32 × xSt) := (xc2 (fX12_in p0 0 6 σ) fun r1 σ2 => (xc2 (fX12_can r1 1 σ2) fun r3 σ4 => (if r3 = 0 then some (0, σ4) else (if p0 = 0 then (xr σ4 1 680 8 fun v5 => some (v5, σ4)) else (if p0 = 1 then (xr σ4 1 680 9 fun v6 => some (v6, σ4)) else (if p0 = 2 then (xr σ4 1 680 10 fun v7 => some (v7, σ4)) else (if p0 = 3 then fX12_book_c90 xFU 0 0 σ4 else (if p0 = 4 then fX12_book_c154 p0 σ4 else (if p0 = 5 then fX12_book_c154 p0 σ4 else (if p0 = 6 then fX12_book_c118 xFU 0 0 σ4 else fX12_book_c154 p0 σ4))))))))))
abbrev rmX12_book : Room := { frames := 2, cells := 0, slots := 0, locals := 45 }
set_option maxRecDepth 100000 in
set_option maxHeartbeats 4000000 in
theorem mX12_book {l : Launch} {E : xE} (hE : E.sh = shM) (p0 : Int32) (σ : xSt) (o1 : Int32) (o2 : xSt) (hf : fX12_book p0 σ = some (o1, o2)) : xMi l yX12_book wsX12_book rmX12_book E [.ref (E.a 0), .int p0] σ o1 o2 := by
  unfold fX12_book at hf
  refine xMi_of (cc := cX12_book) (maxL := 4) (ret := (some .int)) (by decide) rfl (Nat.le_of_ble_eq_true rfl) ?_
  intro p e s m args below meth c A ls ⟨hx, hb, hr, hml, hown, hts, hlk⟩ hA hG hw hl
  have hown : s.vm.findClass RX12 = some m.cls := hown
  have hl : lv_has ls 4 [(0, .ref (E.a 0)), (1, .int p0)] := hl
  have hk9 := hts (.fieldLink RX12 9 "OvenRoundModel" "w" "[I") (by decide +kernel)
  have hiX12 : ∀ w ∈ wsX120, w ∈ wsX12_book := by decide +kernel
  have h165 : ∀ (t0 : Int32) (σ : xSt) (H : Heap) (locs : List Loc) (ls : Array Slot), xw E A s.heap s σ H locs → lv_has ls 4 [] → fX12_book_c165 t0 σ = some (o1, o2) → W p l e rmX12_book s m args below meth c H locs 0 0 (MQ below (xQi E A o1 o2) args s 0 0 A) (F0 m 165 ls [.int t0, .ref (E.a 0)]) := by
    intro t0 σ H locs ls hw hl hf
    unfold fX12_book_c165 at hf
    obtain ⟨r17, σ18, hcl, hf⟩ := xc2_f hf
    refine x_calli (va_runV (As := [.int t0]) (rest := []) ⟨hx, hb, hml, hown, hts⟩ (mX12_inDoughs hE t0 σ r17 σ18 hcl H.size) (cwV 1 hts gX12_book_X12_inDoughs rfl rfl rfl (by decide +kernel) ⟨Nat.le_of_ble_eq_true rfl, Nat.le_of_ble_eq_true rfl⟩) (x_preV _ hw hA hG (cM0 hE) rfl) rfl rfl hl.1 rfl (lv_room (Nat.le_of_ble_eq_true rfl)) dX12_book_165 ⟨Nat.le_of_ble_eq_true rfl, Nat.le_of_ble_eq_true rfl⟩) hw hA (fun H locs hw => ?_)
    clear hcl
    exact x_iret hx hb hr hlk hw hf dX12_book_168
  have h154 : ∀ (a1 : Int32) (σ : xSt) (H : Heap) (locs : List Loc) (ls : Array Slot), xw E A s.heap s σ H locs → lv_has ls 4 [(0, .ref (E.a 0)), (1, .int a1)] → fX12_book_c154 a1 σ = some (o1, o2) → W p l e rmX12_book s m args below meth c H locs 0 0 (MQ below (xQi E A o1 o2) args s 0 0 A) (F0 m 154 ls []) := by
    intro a1 σ H locs ls hw hl hf
    unfold fX12_book_c154 at hf
    refine lv_aload_n hx hb dX12_book_154 rfl (lv_at hl 0 rfl) ?_
    refine lv_iload_n hx hb dX12_book_155 rfl (lv_at hl 1 rfl) ?_
    refine lv_iconst (v := 5) hx hb dX12_book_156 (by decide) ?_
    refine lv_icmp_ne (tgt := 164) hx hb dX12_book_157 (by decide) (fun c157 => ?_) (fun c157 => ?_)
    · replace hf := xif_neg c157 hf
      refine lv_iconst (v := 0) hx hb dX12_book_164 (by decide) ?_
      exact h165 0 σ _ _ _ hw (lv_sub hl [] rfl) hf
    · replace hf := xif_pos c157 hf
      refine lv_iconst (v := 1) hx hb dX12_book_160 (by decide) ?_
      refine lv_goto (tgt := 165) hx hb dX12_book_161 (by decide) ?_
      exact h165 1 σ _ _ _ hw (lv_sub hl [] rfl) hf
  have h118 : ∀ (n : Nat) (a2 : Int32) (a3 : Int32) (σ : xSt) (H : Heap) (locs : List Loc) (ls : Array Slot), xw E A s.heap s σ H locs → lv_has ls 4 [(0, .ref (E.a 0)), (2, .int a2), (3, .int a3)] → fX12_book_c118 n a2 a3 σ = some (o1, o2) → W p l e rmX12_book s m args below meth c H locs 0 0 (MQ below (xQi E A o1 o2) args s 0 0 A) (F0 m 118 ls []) := by
    intro n118
    induction n118 with
    | zero => intro a2 a3 σ H locs ls hw hl hf; exact nomatch hf
    | succ n118 ih118 =>
      intro a2 a3 σ H locs ls hw hl hf
      rw [fX12_book_c118_s] at hf
      refine lv_iload_n hx hb dX12_book_118 rfl (lv_at hl 2 rfl) ?_
      refine lv_aload_n hx hb dX12_book_119 rfl (lv_at hl 0 rfl) ?_
      refine x_getr hx hb hw (cM0 hE) (own := RX12) (ref := RX12) (C := RX12) (T := TX12) (N := 20) hts hiX12 hown rfl 1 (by decide) hk9 (fun _ h9 => h9) rfl dX12_book_120 ?_
      refine lv_iconst (v := 5) hx hb dX12_book_123 (by decide) ?_
      obtain ⟨hin, hf⟩ := xr_f hf
      refine x_iald hx hb hw (cM1 hE) hin dX12_book_124 ?_
      refine lv_topi (fun v11 ex => ?_)
      replace hf := hf v11 ex
      clear ex hin
      refine lv_icmp_ge (tgt := 152) hx hb dX12_book_125 (by decide) (fun c125 => ?_) (fun c125 => ?_)
      · replace hf := xif_pos c125 hf
        refine lv_iload_n hx hb dX12_book_152 rfl (lv_at hl 1 rfl) ?_
        exact x_iret hx hb hr hlk hw hf dX12_book_153
      · replace hf := xif_neg c125 hf
        refine lv_iload_n hx hb dX12_book_128 rfl (lv_at hl 1 rfl) ?_
        refine lv_aload_n hx hb dX12_book_129 rfl (lv_at hl 0 rfl) ?_
        refine lv_iload_n hx hb dX12_book_130 rfl (lv_at hl 2 rfl) ?_
        obtain ⟨r12, σ13, hcl, hf⟩ := xc2_f hf
        refine x_calli (va_runV (As := [.int a3]) (rest := [.int a2]) ⟨hx, hb, hml, hown, hts⟩ (mX12_breadsOf hE a3 σ r12 σ13 hcl H.size) (cwV 1 hts gX12_book_X12_breadsOf rfl rfl rfl (by decide +kernel) ⟨Nat.le_of_ble_eq_true rfl, Nat.le_of_ble_eq_true rfl⟩) (x_preV _ hw hA hG (cM0 hE) rfl) rfl rfl hl.1 rfl (lv_room (Nat.le_of_ble_eq_true rfl)) dX12_book_131 ⟨Nat.le_of_ble_eq_true rfl, Nat.le_of_ble_eq_true rfl⟩) hw hA (fun H locs hw => ?_)
        clear hcl
        refine lv_aload_n hx hb dX12_book_134 rfl (lv_at hl 0 rfl) ?_
        refine x_getr hx hb hw (cM0 hE) (own := RX12) (ref := RX12) (C := RX12) (T := TX12) (N := 20) hts hiX12 hown rfl 1 (by decide) hk9 (fun _ h9 => h9) rfl dX12_book_135 ?_
        refine lv_bipush (v := 19) hx hb dX12_book_138 (by decide) ?_
        refine lv_iload_n hx hb dX12_book_140 rfl (lv_at hl 2 rfl) ?_
        refine lv_iadd hx hb dX12_book_141 ?_
        obtain ⟨hin, hf⟩ := xr_f hf
        refine x_iald hx hb hw (cM1 hE) hin dX12_book_142 ?_
        refine lv_topi (fun v14 ex => ?_)
        replace hf := hf v14 ex
        clear ex hin
        refine lv_imul hx hb dX12_book_143 ?_
        refine lv_iadd hx hb dX12_book_144 ?_
        refine lv_topi (fun v15 ex => ?_)
        replace hf := xl_f hf v15 ex
        clear ex
        refine lv_istore_n (lv' := [(2, .int v15), (0, .ref (E.a 0)), (3, .int a3)]) hx hb dX12_book_145 rfl hl (by decide) rfl (fun ls hl => ?_)
        obtain ⟨v16, ex⟩ : ∃ y : Int32, y = (a3 + 1) := ⟨_, rfl⟩
        replace hf := xl_f hf v16 ex
        refine lv_iinc (v := v16) (lv' := [(3, .int v16), (2, .int v15), (0, .ref (E.a 0))]) hx hb dX12_book_146 hl (k := 2) rfl (by rw [ex]; rfl) (by decide) rfl (fun ls hl => ?_)
        clear ex
        refine lv_goto (tgt := 118) hx hb dX12_book_149 (by decide) ?_
        exact ih118 v15 v16 σ13 _ _ _ hw (lv_sub hl [2, 1, 0] rfl) hf
  have h90 : ∀ (n : Nat) (a2 : Int32) (a3 : Int32) (σ : xSt) (H : Heap) (locs : List Loc) (ls : Array Slot), xw E A s.heap s σ H locs → lv_has ls 4 [(0, .ref (E.a 0)), (2, .int a2), (3, .int a3)] → fX12_book_c90 n a2 a3 σ = some (o1, o2) → W p l e rmX12_book s m args below meth c H locs 0 0 (MQ below (xQi E A o1 o2) args s 0 0 A) (F0 m 90 ls []) := by
    intro n90
    induction n90 with
    | zero => intro a2 a3 σ H locs ls hw hl hf; exact nomatch hf
    | succ n90 ih90 =>
      intro a2 a3 σ H locs ls hw hl hf
      rw [fX12_book_c90_s] at hf
      refine lv_iload_n hx hb dX12_book_90 rfl (lv_at hl 2 rfl) ?_
      refine lv_bipush (v := 8) hx hb dX12_book_91 (by decide) ?_
      refine lv_icmp_ge (tgt := 114) hx hb dX12_book_93 (by decide) (fun c93 => ?_) (fun c93 => ?_)
      · replace hf := xif_pos c93 hf
        refine lv_iload_n hx hb dX12_book_114 rfl (lv_at hl 1 rfl) ?_
        exact x_iret hx hb hr hlk hw hf dX12_book_115
      · replace hf := xif_neg c93 hf
        refine lv_iload_n hx hb dX12_book_96 rfl (lv_at hl 1 rfl) ?_
        refine lv_aload_n hx hb dX12_book_97 rfl (lv_at hl 0 rfl) ?_
        refine x_getr hx hb hw (cM0 hE) (own := RX12) (ref := RX12) (C := RX12) (T := TX12) (N := 20) hts hiX12 hown rfl 1 (by decide) hk9 (fun _ h9 => h9) rfl dX12_book_98 ?_
        refine lv_bipush (v := 11) hx hb dX12_book_101 (by decide) ?_
        refine lv_iload_n hx hb dX12_book_103 rfl (lv_at hl 2 rfl) ?_
        refine lv_iadd hx hb dX12_book_104 ?_
        obtain ⟨hin, hf⟩ := xr_f hf
        refine x_iald hx hb hw (cM1 hE) hin dX12_book_105 ?_
        refine lv_topi (fun v8 ex => ?_)
        replace hf := hf v8 ex
        clear ex hin
        refine lv_iadd hx hb dX12_book_106 ?_
        refine lv_topi (fun v9 ex => ?_)
        replace hf := xl_f hf v9 ex
        clear ex
        refine lv_istore_n (lv' := [(2, .int v9), (0, .ref (E.a 0)), (3, .int a3)]) hx hb dX12_book_107 rfl hl (by decide) rfl (fun ls hl => ?_)
        obtain ⟨v10, ex⟩ : ∃ y : Int32, y = (a3 + 1) := ⟨_, rfl⟩
        replace hf := xl_f hf v10 ex
        refine lv_iinc (v := v10) (lv' := [(3, .int v10), (2, .int v9), (0, .ref (E.a 0))]) hx hb dX12_book_108 hl (k := 2) rfl (by rw [ex]; rfl) (by decide) rfl (fun ls hl => ?_)
        clear ex
        refine lv_goto (tgt := 90) hx hb dX12_book_111 (by decide) ?_
        exact ih90 v9 v10 σ _ _ _ hw (lv_sub hl [2, 1, 0] rfl) hf
  refine lv_aload_n hx hb dX12_book_0 rfl (lv_at hl 0 rfl) ?_
  refine lv_iload_n hx hb dX12_book_1 rfl (lv_at hl 1 rfl) ?_
  refine lv_iconst (v := 0) hx hb dX12_book_2 (by decide) ?_
  refine lv_bipush (v := 6) hx hb dX12_book_3 (by decide) ?_
  obtain ⟨r1, σ2, hcl, hf⟩ := xc2_f hf
  refine x_calli (va_runS (As := [.int p0, .int 0, .int 6]) (rest := [.ref (E.a 0)]) ⟨hx, hb, hml, hown, hts⟩ (mX12_in hE p0 0 6 σ r1 σ2 hcl s.heap.size) (va_cwS 3 hts gX12_book_X12_in rfl rfl rfl (by decide +kernel) ⟨Nat.le_of_ble_eq_true rfl, Nat.le_of_ble_eq_true rfl⟩) (x_preS _ hw hA hG) rfl rfl hl.1 rfl (lv_room (Nat.le_of_ble_eq_true rfl)) dX12_book_5 ⟨Nat.le_of_ble_eq_true rfl, Nat.le_of_ble_eq_true rfl⟩) hw hA (fun H locs hw => ?_)
  clear hcl
  refine lv_iconst (v := 1) hx hb dX12_book_8 (by decide) ?_
  obtain ⟨r3, σ4, hcl, hf⟩ := xc2_f hf
  refine x_calli (va_runV (As := [.int r1, .int 1]) (rest := []) ⟨hx, hb, hml, hown, hts⟩ (mX12_can hE r1 1 σ2 r3 σ4 hcl H.size) (cwV 2 hts gX12_book_X12_can rfl rfl rfl (by decide +kernel) ⟨Nat.le_of_ble_eq_true rfl, Nat.le_of_ble_eq_true rfl⟩) (x_preV _ hw hA hG (cM0 hE) rfl) rfl rfl hl.1 rfl (lv_room (Nat.le_of_ble_eq_true rfl)) dX12_book_9 ⟨Nat.le_of_ble_eq_true rfl, Nat.le_of_ble_eq_true rfl⟩) hw hA (fun H locs hw => ?_)
  clear hcl
  refine lv_if_ne (tgt := 17) hx hb dX12_book_12 (by decide) (fun c12 => ?_) (fun c12 => ?_)
  · replace hf := xif_neg c12 hf
    refine lv_iconst (v := 0) hx hb dX12_book_17 (by decide) ?_
    refine lv_istore_n (lv' := [(2, .int 0), (0, .ref (E.a 0)), (1, .int p0)]) hx hb dX12_book_18 rfl hl (by decide) rfl (fun ls hl => ?_)
    refine lv_iload_n hx hb dX12_book_19 rfl (lv_at hl 2 rfl) ?_
    by_cases c20_0 : p0 = 0
    · replace hf := xif_pos c20_0 hf
      refine lv_tableIn (off := 44) (tgt := 64) hx hb dX12_book_20 (by rw [c20_0]; decide) (by rw [c20_0]; decide) (by rw [c20_0]; rfl) (by decide) ?_
      refine lv_aload_n hx hb dX12_book_64 rfl (lv_at hl 1 rfl) ?_
      refine x_getr hx hb hw (cM0 hE) (own := RX12) (ref := RX12) (C := RX12) (T := TX12) (N := 20) hts hiX12 hown rfl 1 (by decide) hk9 (fun _ h9 => h9) rfl dX12_book_65 ?_
      refine lv_bipush (v := 8) hx hb dX12_book_68 (by decide) ?_
      obtain ⟨hin, hf⟩ := xr_f hf
      refine x_iald hx hb hw (cM1 hE) hin dX12_book_70 ?_
      refine lv_topi (fun v5 ex => ?_)
      replace hf := hf v5 ex
      clear ex hin
      exact x_iret hx hb hr hlk hw hf dX12_book_71
    · replace hf := xif_neg c20_0 hf
      by_cases c20_1 : p0 = 1
      · replace hf := xif_pos c20_1 hf
        refine lv_tableIn (off := 52) (tgt := 72) hx hb dX12_book_20 (by rw [c20_1]; decide) (by rw [c20_1]; decide) (by rw [c20_1]; rfl) (by decide) ?_
        refine lv_aload_n hx hb dX12_book_72 rfl (lv_at hl 1 rfl) ?_
        refine x_getr hx hb hw (cM0 hE) (own := RX12) (ref := RX12) (C := RX12) (T := TX12) (N := 20) hts hiX12 hown rfl 1 (by decide) hk9 (fun _ h9 => h9) rfl dX12_book_73 ?_
        refine lv_bipush (v := 9) hx hb dX12_book_76 (by decide) ?_
        obtain ⟨hin, hf⟩ := xr_f hf
        refine x_iald hx hb hw (cM1 hE) hin dX12_book_78 ?_
        refine lv_topi (fun v6 ex => ?_)
        replace hf := hf v6 ex
        clear ex hin
        exact x_iret hx hb hr hlk hw hf dX12_book_79
      · replace hf := xif_neg c20_1 hf
        by_cases c20_2 : p0 = 2
        · replace hf := xif_pos c20_2 hf
          refine lv_tableIn (off := 60) (tgt := 80) hx hb dX12_book_20 (by rw [c20_2]; decide) (by rw [c20_2]; decide) (by rw [c20_2]; rfl) (by decide) ?_
          refine lv_aload_n hx hb dX12_book_80 rfl (lv_at hl 1 rfl) ?_
          refine x_getr hx hb hw (cM0 hE) (own := RX12) (ref := RX12) (C := RX12) (T := TX12) (N := 20) hts hiX12 hown rfl 1 (by decide) hk9 (fun _ h9 => h9) rfl dX12_book_81 ?_
          refine lv_bipush (v := 10) hx hb dX12_book_84 (by decide) ?_
          obtain ⟨hin, hf⟩ := xr_f hf
          refine x_iald hx hb hw (cM1 hE) hin dX12_book_86 ?_
          refine lv_topi (fun v7 ex => ?_)
          replace hf := hf v7 ex
          clear ex hin
          exact x_iret hx hb hr hlk hw hf dX12_book_87
        · replace hf := xif_neg c20_2 hf
          by_cases c20_3 : p0 = 3
          · replace hf := xif_pos c20_3 hf
            refine lv_tableIn (off := 68) (tgt := 88) hx hb dX12_book_20 (by rw [c20_3]; decide) (by rw [c20_3]; decide) (by rw [c20_3]; rfl) (by decide) ?_
            refine lv_iconst (v := 0) hx hb dX12_book_88 (by decide) ?_
            refine lv_istore_n (lv' := [(3, .int 0), (2, .int 0), (0, .ref (E.a 0)), (1, .int p0)]) hx hb dX12_book_89 rfl hl (by decide) rfl (fun ls hl => ?_)
            exact h90 xFU 0 0 σ4 _ _ _ hw (lv_sub hl [2, 1, 0] rfl) hf
          · replace hf := xif_neg c20_3 hf
            by_cases c20_4 : p0 = 4
            · replace hf := xif_pos c20_4 hf
              refine lv_tableIn (off := 134) (tgt := 154) hx hb dX12_book_20 (by rw [c20_4]; decide) (by rw [c20_4]; decide) (by rw [c20_4]; rfl) (by decide) ?_
              exact h154 p0 σ4 _ _ _ hw (lv_sub hl [1, 2] rfl) hf
            · replace hf := xif_neg c20_4 hf
              by_cases c20_5 : p0 = 5
              · replace hf := xif_pos c20_5 hf
                refine lv_tableIn (off := 134) (tgt := 154) hx hb dX12_book_20 (by rw [c20_5]; decide) (by rw [c20_5]; decide) (by rw [c20_5]; rfl) (by decide) ?_
                exact h154 p0 σ4 _ _ _ hw (lv_sub hl [1, 2] rfl) hf
              · replace hf := xif_neg c20_5 hf
                by_cases c20_6 : p0 = 6
                · replace hf := xif_pos c20_6 hf
                  refine lv_tableIn (off := 96) (tgt := 116) hx hb dX12_book_20 (by rw [c20_6]; decide) (by rw [c20_6]; decide) (by rw [c20_6]; rfl) (by decide) ?_
                  refine lv_iconst (v := 0) hx hb dX12_book_116 (by decide) ?_
                  refine lv_istore_n (lv' := [(3, .int 0), (2, .int 0), (0, .ref (E.a 0)), (1, .int p0)]) hx hb dX12_book_117 rfl hl (by decide) rfl (fun ls hl => ?_)
                  exact h118 xFU 0 0 σ4 _ _ _ hw (lv_sub hl [2, 1, 0] rfl) hf
                · replace hf := xif_neg c20_6 hf
                  refine lv_tableOut (tgt := 154) hx hb dX12_book_20 (x_sw6 c20_0 c20_1 c20_2 c20_3 c20_4 c20_5 c20_6) (by decide) ?_
                  exact h154 p0 σ4 _ _ _ hw (lv_sub hl [1, 2] rfl) hf
  · replace hf := xif_pos c12 hf
    refine lv_iconst (v := 0) hx hb dX12_book_15 (by decide) ?_
    exact x_iret hx hb hr hlk hw hf dX12_book_16

def fX12_type_c113 : Nat → Int64 → Int32 → xSt → Option (Int32 × xSt)
  | 0 => fun _ _ _ => none
  | n + 1 => fun a1 a5 σ => (if a5 < 0 then some ((σ 0 6), σ) else (xl (Int64.toInt32 ((a1 >>> (Int32.toInt64 a5 &&& 63)) &&& 255)) fun v12 => (if v12 = 0 then (xl (a5 + (-8)) fun v13 => fX12_type_c113 n a1 v13 σ) else (xs σ 3 80 (σ 0 6) v12 fun σ14 => (xp σ14 0 6 ((σ14 0 6) + 1) fun σ15 => (xl (a5 + (-8)) fun v16 => fX12_type_c113 n a1 v16 σ15))))))
theorem fX12_type_c113_s (n : Nat) (a1 : Int64) (a5 : Int32) (σ : xSt) : fX12_type_c113 (n + 1) a1 a5 σ = ((if a5 < 0 then some ((σ 0 6), σ) else (xl (Int64.toInt32 ((a1 >>> (Int32.toInt64 a5 &&& 63)) &&& 255)) fun v12 => (if v12 = 0 then (xl (a5 + (-8)) fun v13 => fX12_type_c113 n a1 v13 σ) else (xs σ 3 80 (σ 0 6) v12 fun σ14 => (xp σ14 0 6 ((σ14 0 6) + 1) fun σ15 => (xl (a5 + (-8)) fun v16 => fX12_type_c113 n a1 v16 σ15)))))) : Option (Int32 × xSt)) := rfl
def fX12_type_c100 (a1 : Int64) (t0 : Int32) (σ : xSt) : Option (Int32 × xSt) := (xc2 (fX12_can t0 2 σ) fun r10 σ11 => (if r10 = 0 then some (0, σ11) else fX12_type_c113 xFU a1 56 σ11))
def fX12_type_c52 (k9 : (Int64 → Int32 → Int32 → Int32 → xSt → Option (Int32 × xSt))) (a1 : Int64) (a3 : Int32) (a5 : Int32) (a6 : Int32) (t0 : Int32) (σ : xSt) : Option (Int32 × xSt) := (if a6 = 0 then (xl (a3 + 0) fun v8 => (xl (a5 + (-8)) fun v9 => k9 a1 v8 t0 v9 σ)) else (xl (a3 + 1) fun v6 => (xl (a5 + (-8)) fun v7 => k9 a1 v6 t0 v7 σ)))
def fX12_type_c51 (k9 : (Int64 → Int32 → Int32 → Int32 → xSt → Option (Int32 × xSt))) (a1 : Int64) (a3 : Int32) (a5 : Int32) (a6 : Int32) (σ : xSt) : Option (Int32 × xSt) := fX12_type_c52 k9 a1 a3 a5 a6 0 σ
def fX12_type_c47 (k9 : (Int64 → Int32 → Int32 → Int32 → xSt → Option (Int32 × xSt))) (a1 : Int64) (a3 : Int32) (a5 : Int32) (a6 : Int32) (σ : xSt) : Option (Int32 × xSt) := fX12_type_c52 k9 a1 a3 a5 a6 1 σ
def fX12_type_c9 : Nat → Int64 → Int32 → Int32 → Int32 → xSt → Option (Int32 × xSt)
  | 0 => fun _ _ _ _ _ => none
  | n + 1 => fun a1 a3 a4 a5 σ => (if a5 < 0 then (xc2 (fX12_can a4 1 σ) fun r1 σ2 => (if r1 = 0 then some (0, σ2) else (if 80 < ((σ2 0 6) + a3) then fX12_type_c100 a1 0 σ2 else fX12_type_c100 a1 1 σ2))) else (xl (Int64.toInt32 ((a1 >>> (Int32.toInt64 a5 &&& 63)) &&& 255)) fun v3 => (if a4 = 0 then fX12_type_c51 (fX12_type_c9 n) a1 a3 a5 v3 σ else (if v3 = 0 then fX12_type_c47 (fX12_type_c9 n) a1 a3 a5 v3 σ else (xc2 (fX12_in v3 32 126 σ) fun r4 σ5 => (if r4 = 0 then fX12_type_c51 (fX12_type_c9 n) a1 a3 a5 v3 σ5 else fX12_type_c47 (fX12_type_c9 n) a1 a3 a5 v3 σ5))))))
theorem fX12_type_c9_s (n : Nat) (a1 : Int64) (a3 : Int32) (a4 : Int32) (a5 : Int32) (σ : xSt) : fX12_type_c9 (n + 1) a1 a3 a4 a5 σ = ((if a5 < 0 then (xc2 (fX12_can a4 1 σ) fun r1 σ2 => (if r1 = 0 then some (0, σ2) else (if 80 < ((σ2 0 6) + a3) then fX12_type_c100 a1 0 σ2 else fX12_type_c100 a1 1 σ2))) else (xl (Int64.toInt32 ((a1 >>> (Int32.toInt64 a5 &&& 63)) &&& 255)) fun v3 => (if a4 = 0 then fX12_type_c51 (fX12_type_c9 n) a1 a3 a5 v3 σ else (if v3 = 0 then fX12_type_c47 (fX12_type_c9 n) a1 a3 a5 v3 σ else (xc2 (fX12_in v3 32 126 σ) fun r4 σ5 => (if r4 = 0 then fX12_type_c51 (fX12_type_c9 n) a1 a3 a5 v3 σ5 else fX12_type_c47 (fX12_type_c9 n) a1 a3 a5 v3 σ5)))))) : Option (Int32 × xSt)) := rfl
def fX12_type (p0 : Int64) (σ : xSt) : Option (Int32 × xSt) := fX12_type_c9 xFU p0 0 1 56 σ
abbrev rmX12_type : Room := { frames := 1, cells := 0, slots := 0, locals := 22 }
set_option maxRecDepth 100000 in
set_option maxHeartbeats 4000000 in
theorem mX12_type {l : Launch} {E : xE} (hE : E.sh = shM) (p0 : Int64) (σ : xSt) (o1 : Int32) (o2 : xSt) (hf : fX12_type p0 σ = some (o1, o2)) : xMi l yX12_type wsX12_type rmX12_type E [.ref (E.a 0), .long p0] σ o1 o2 := by
  unfold fX12_type at hf
  refine xMi_of (cc := cX12_type) (maxL := 7) (ret := (some .int)) (by decide) rfl (Nat.le_of_ble_eq_true rfl) ?_
  intro p e s m args below meth c A ls ⟨hx, hb, hr, hml, hown, hts, hlk⟩ hA hG hw hl
  have hown : s.vm.findClass RX12 = some m.cls := hown
  have hl : lv_has ls 7 [(0, .ref (E.a 0)), (1, .long p0)] := hl
  have hk248 := hts (.fieldLink RX12 248 "OvenRoundModel" "length" "I") (by decide +kernel)
  have hiX12 : ∀ w ∈ wsX120, w ∈ wsX12_type := by decide +kernel
  have hk16 := hts (.fieldLink RX12 16 "OvenRoundModel" "text" "[I") (by decide +kernel)
  have h113 : ∀ (n : Nat) (a1 : Int64) (a5 : Int32) (σ : xSt) (H : Heap) (locs : List Loc) (ls : Array Slot), xw E A s.heap s σ H locs → lv_has ls 7 [(0, .ref (E.a 0)), (1, .long a1), (5, .int a5)] → fX12_type_c113 n a1 a5 σ = some (o1, o2) → W p l e rmX12_type s m args below meth c H locs 0 0 (MQ below (xQi E A o1 o2) args s 0 0 A) (F0 m 113 ls []) := by
    intro n113
    induction n113 with
    | zero => intro a1 a5 σ H locs ls hw hl hf; exact nomatch hf
    | succ n113 ih113 =>
      intro a1 a5 σ H locs ls hw hl hf
      rw [fX12_type_c113_s] at hf
      refine lv_iload hx hb dX12_type_113 (lv_at hl 2 rfl) ?_
      refine lv_if_lt (tgt := 161) hx hb dX12_type_115 (by decide) (fun c115 => ?_) (fun c115 => ?_)
      · replace hf := xif_pos c115 hf
        refine lv_aload_n hx hb dX12_type_161 rfl (lv_at hl 0 rfl) ?_
        refine x_geti hx hb hw (cM0 hE) (own := RX12) (ref := RX12) (C := RX12) (T := TX12) (N := 20) hts hiX12 hown rfl 6 (by decide) hk248 (fun _ h9 => h9) rfl dX12_type_162 ?_
        exact x_iret hx hb hr hlk hw hf dX12_type_165
      · replace hf := xif_neg c115 hf
        refine lv_lload_n hx hb dX12_type_118 rfl (lv_at hl 1 rfl) ?_
        refine lv_iload hx hb dX12_type_119 (lv_at hl 2 rfl) ?_
        refine lv_lshr hx hb dX12_type_121 rfl ?_
        refine lv_ldc2 hx hb hown (hts (.constantLong RX12 246 (255)) (by decide +kernel)) dX12_type_122 ?_
        refine lv_land hx hb dX12_type_125 ?_
        refine lv_l2i hx hb dX12_type_126 rfl ?_
        refine lv_topi (fun v12 ex => ?_)
        replace hf := xl_f hf v12 ex
        clear ex
        refine lv_istore (lv' := [(6, .int v12), (0, .ref (E.a 0)), (1, .long a1), (5, .int a5)]) hx hb dX12_type_127 hl (by decide) rfl (fun ls hl => ?_)
        refine lv_iload hx hb dX12_type_129 (lv_at hl 0 rfl) ?_
        refine lv_if_eq (tgt := 155) hx hb dX12_type_131 (by decide) (fun c131 => ?_) (fun c131 => ?_)
        · replace hf := xif_pos c131 hf
          obtain ⟨v13, ex⟩ : ∃ y : Int32, y = (a5 + (-8)) := ⟨_, rfl⟩
          replace hf := xl_f hf v13 ex
          refine lv_iinc (v := v13) (lv' := [(5, .int v13), (6, .int v12), (0, .ref (E.a 0)), (1, .long a1)]) hx hb dX12_type_155 hl (k := 3) rfl (by rw [ex]; rfl) (by decide) rfl (fun ls hl => ?_)
          clear ex
          refine lv_goto (tgt := 113) hx hb dX12_type_158 (by decide) ?_
          exact ih113 a1 v13 σ _ _ _ hw (lv_sub hl [2, 3, 0] rfl) hf
        · replace hf := xif_neg c131 hf
          refine lv_aload_n hx hb dX12_type_134 rfl (lv_at hl 1 rfl) ?_
          refine x_getr hx hb hw (cM0 hE) (own := RX12) (ref := RX12) (C := RX12) (T := TX12) (N := 20) hts hiX12 hown rfl 5 (by decide) hk16 (fun _ h9 => h9) rfl dX12_type_135 ?_
          refine lv_aload_n hx hb dX12_type_138 rfl (lv_at hl 1 rfl) ?_
          refine x_geti hx hb hw (cM0 hE) (own := RX12) (ref := RX12) (C := RX12) (T := TX12) (N := 20) hts hiX12 hown rfl 6 (by decide) hk248 (fun _ h9 => h9) rfl dX12_type_139 ?_
          refine lv_iload hx hb dX12_type_142 (lv_at hl 0 rfl) ?_
          obtain ⟨hin, hf⟩ := xs_f hf
          refine x_iast hx hb hw (cM3 hE) hin dX12_type_144 (fun σ14 H locs ex hw => ?_)
          replace hf := hf σ14 ex
          clear ex hin
          refine lv_aload_n hx hb dX12_type_145 rfl (lv_at hl 1 rfl) ?_
          refine lv_dup hx hb dX12_type_146 rfl ?_
          refine x_geti hx hb hw (cM0 hE) (own := RX12) (ref := RX12) (C := RX12) (T := TX12) (N := 20) hts hiX12 hown rfl 6 (by decide) hk248 (fun _ h9 => h9) rfl dX12_type_147 ?_
          refine lv_iconst (v := 1) hx hb dX12_type_150 (by decide) ?_
          refine lv_iadd hx hb dX12_type_151 ?_
          refine x_puti hx hb hw (cM0 hE) (own := RX12) (ref := RX12) (C := RX12) (T := TX12) (N := 20) hts hiX12 tyX12 tyX12_ok nmX12 hown rfl 6 (by decide) hk248 (fun _ h9 => h9) rfl (by decide +kernel) rfl dX12_type_152 (fun σ15 H locs ex hw => ?_)
          replace hf := xp_f hf σ15 ex
          clear ex
          obtain ⟨v16, ex⟩ : ∃ y : Int32, y = (a5 + (-8)) := ⟨_, rfl⟩
          replace hf := xl_f hf v16 ex
          refine lv_iinc (v := v16) (lv' := [(5, .int v16), (6, .int v12), (0, .ref (E.a 0)), (1, .long a1)]) hx hb dX12_type_155 hl (k := 3) rfl (by rw [ex]; rfl) (by decide) rfl (fun ls hl => ?_)
          clear ex
          refine lv_goto (tgt := 113) hx hb dX12_type_158 (by decide) ?_
          exact ih113 a1 v16 σ15 _ _ _ hw (lv_sub hl [2, 3, 0] rfl) hf
  have h100 : ∀ (a1 : Int64) (t0 : Int32) (σ : xSt) (H : Heap) (locs : List Loc) (ls : Array Slot), xw E A s.heap s σ H locs → lv_has ls 7 [(0, .ref (E.a 0)), (1, .long a1)] → fX12_type_c100 a1 t0 σ = some (o1, o2) → W p l e rmX12_type s m args below meth c H locs 0 0 (MQ below (xQi E A o1 o2) args s 0 0 A) (F0 m 100 ls [.int t0, .ref (E.a 0)]) := by
    intro a1 t0 σ H locs ls hw hl hf
    unfold fX12_type_c100 at hf
    refine lv_iconst (v := 2) hx hb dX12_type_100 (by decide) ?_
    obtain ⟨r10, σ11, hcl, hf⟩ := xc2_f hf
    refine x_calli (va_runV (As := [.int t0, .int 2]) (rest := []) ⟨hx, hb, hml, hown, hts⟩ (mX12_can hE t0 2 σ r10 σ11 hcl H.size) (cwV 2 hts gX12_type_X12_can rfl rfl rfl (by decide +kernel) ⟨Nat.le_of_ble_eq_true rfl, Nat.le_of_ble_eq_true rfl⟩) (x_preV _ hw hA hG (cM0 hE) rfl) rfl rfl hl.1 rfl (lv_room (Nat.le_of_ble_eq_true rfl)) dX12_type_101 ⟨Nat.le_of_ble_eq_true rfl, Nat.le_of_ble_eq_true rfl⟩) hw hA (fun H locs hw => ?_)
    clear hcl
    refine lv_if_ne (tgt := 109) hx hb dX12_type_104 (by decide) (fun c104 => ?_) (fun c104 => ?_)
    · replace hf := xif_neg c104 hf
      refine lv_bipush (v := 56) hx hb dX12_type_109 (by decide) ?_
      refine lv_istore (lv' := [(5, .int 56), (0, .ref (E.a 0)), (1, .long a1)]) hx hb dX12_type_111 hl (by decide) rfl (fun ls hl => ?_)
      exact h113 xFU a1 56 σ11 _ _ _ hw (lv_sub hl [1, 2, 0] rfl) hf
    · replace hf := xif_pos c104 hf
      refine lv_iconst (v := 0) hx hb dX12_type_107 (by decide) ?_
      exact x_iret hx hb hr hlk hw hf dX12_type_108
  have h9 : ∀ (n : Nat) (a1 : Int64) (a3 : Int32) (a4 : Int32) (a5 : Int32) (σ : xSt) (H : Heap) (locs : List Loc) (ls : Array Slot), xw E A s.heap s σ H locs → lv_has ls 7 [(0, .ref (E.a 0)), (1, .long a1), (3, .int a3), (4, .int a4), (5, .int a5)] → fX12_type_c9 n a1 a3 a4 a5 σ = some (o1, o2) → W p l e rmX12_type s m args below meth c H locs 0 0 (MQ below (xQi E A o1 o2) args s 0 0 A) (F0 m 9 ls []) := by
    intro n9
    induction n9 with
    | zero => intro a1 a3 a4 a5 σ H locs ls hw hl hf; exact nomatch hf
    | succ n9 ih9 =>
      have h52 : ∀ (a1 : Int64) (a3 : Int32) (a5 : Int32) (a6 : Int32) (t0 : Int32) (σ : xSt) (H : Heap) (locs : List Loc) (ls : Array Slot), xw E A s.heap s σ H locs → lv_has ls 7 [(0, .ref (E.a 0)), (1, .long a1), (3, .int a3), (5, .int a5), (6, .int a6)] → fX12_type_c52 (fX12_type_c9 n9) a1 a3 a5 a6 t0 σ = some (o1, o2) → W p l e rmX12_type s m args below meth c H locs 0 0 (MQ below (xQi E A o1 o2) args s 0 0 A) (F0 m 52 ls [.int t0]) := by
        intro a1 a3 a5 a6 t0 σ H locs ls hw hl hf
        unfold fX12_type_c52 at hf
        refine lv_istore (lv' := [(4, .int t0), (0, .ref (E.a 0)), (1, .long a1), (3, .int a3), (5, .int a5), (6, .int a6)]) hx hb dX12_type_52 hl (by decide) rfl (fun ls hl => ?_)
        refine lv_iload_n hx hb dX12_type_54 rfl (lv_at hl 3 rfl) ?_
        refine lv_iload hx hb dX12_type_55 (lv_at hl 5 rfl) ?_
        refine lv_if_ne (tgt := 64) hx hb dX12_type_57 (by decide) (fun c57 => ?_) (fun c57 => ?_)
        · replace hf := xif_neg c57 hf
          refine lv_iconst (v := 1) hx hb dX12_type_64 (by decide) ?_
          refine lv_iadd hx hb dX12_type_65 ?_
          refine lv_topi (fun v6 ex => ?_)
          replace hf := xl_f hf v6 ex
          clear ex
          refine lv_istore_n (lv' := [(3, .int v6), (4, .int t0), (0, .ref (E.a 0)), (1, .long a1), (5, .int a5), (6, .int a6)]) hx hb dX12_type_66 rfl hl (by decide) rfl (fun ls hl => ?_)
          obtain ⟨v7, ex⟩ : ∃ y : Int32, y = (a5 + (-8)) := ⟨_, rfl⟩
          replace hf := xl_f hf v7 ex
          refine lv_iinc (v := v7) (lv' := [(5, .int v7), (3, .int v6), (4, .int t0), (0, .ref (E.a 0)), (1, .long a1), (6, .int a6)]) hx hb dX12_type_67 hl (k := 4) rfl (by rw [ex]; rfl) (by decide) rfl (fun ls hl => ?_)
          clear ex
          refine lv_goto (tgt := 9) hx hb dX12_type_70 (by decide) ?_
          exact ih9 a1 v6 t0 v7 σ _ _ _ hw (lv_sub hl [3, 4, 1, 2, 0] rfl) hf
        · replace hf := xif_pos c57 hf
          refine lv_iconst (v := 0) hx hb dX12_type_60 (by decide) ?_
          refine lv_goto (tgt := 65) hx hb dX12_type_61 (by decide) ?_
          refine lv_iadd hx hb dX12_type_65 ?_
          refine lv_topi (fun v8 ex => ?_)
          replace hf := xl_f hf v8 ex
          clear ex
          refine lv_istore_n (lv' := [(3, .int v8), (4, .int t0), (0, .ref (E.a 0)), (1, .long a1), (5, .int a5), (6, .int a6)]) hx hb dX12_type_66 rfl hl (by decide) rfl (fun ls hl => ?_)
          obtain ⟨v9, ex⟩ : ∃ y : Int32, y = (a5 + (-8)) := ⟨_, rfl⟩
          replace hf := xl_f hf v9 ex
          refine lv_iinc (v := v9) (lv' := [(5, .int v9), (3, .int v8), (4, .int t0), (0, .ref (E.a 0)), (1, .long a1), (6, .int a6)]) hx hb dX12_type_67 hl (k := 4) rfl (by rw [ex]; rfl) (by decide) rfl (fun ls hl => ?_)
          clear ex
          refine lv_goto (tgt := 9) hx hb dX12_type_70 (by decide) ?_
          exact ih9 a1 v8 t0 v9 σ _ _ _ hw (lv_sub hl [3, 4, 1, 2, 0] rfl) hf
      have h51 : ∀ (a1 : Int64) (a3 : Int32) (a5 : Int32) (a6 : Int32) (σ : xSt) (H : Heap) (locs : List Loc) (ls : Array Slot), xw E A s.heap s σ H locs → lv_has ls 7 [(0, .ref (E.a 0)), (1, .long a1), (3, .int a3), (5, .int a5), (6, .int a6)] → fX12_type_c51 (fX12_type_c9 n9) a1 a3 a5 a6 σ = some (o1, o2) → W p l e rmX12_type s m args below meth c H locs 0 0 (MQ below (xQi E A o1 o2) args s 0 0 A) (F0 m 51 ls []) := by
        intro a1 a3 a5 a6 σ H locs ls hw hl hf
        unfold fX12_type_c51 at hf
        refine lv_iconst (v := 0) hx hb dX12_type_51 (by decide) ?_
        exact h52 a1 a3 a5 a6 0 σ _ _ _ hw (lv_sub hl [0, 1, 2, 3, 4] rfl) hf
      have h47 : ∀ (a1 : Int64) (a3 : Int32) (a5 : Int32) (a6 : Int32) (σ : xSt) (H : Heap) (locs : List Loc) (ls : Array Slot), xw E A s.heap s σ H locs → lv_has ls 7 [(0, .ref (E.a 0)), (1, .long a1), (3, .int a3), (5, .int a5), (6, .int a6)] → fX12_type_c47 (fX12_type_c9 n9) a1 a3 a5 a6 σ = some (o1, o2) → W p l e rmX12_type s m args below meth c H locs 0 0 (MQ below (xQi E A o1 o2) args s 0 0 A) (F0 m 47 ls []) := by
        intro a1 a3 a5 a6 σ H locs ls hw hl hf
        unfold fX12_type_c47 at hf
        refine lv_iconst (v := 1) hx hb dX12_type_47 (by decide) ?_
        refine lv_goto (tgt := 52) hx hb dX12_type_48 (by decide) ?_
        exact h52 a1 a3 a5 a6 1 σ _ _ _ hw (lv_sub hl [0, 1, 2, 3, 4] rfl) hf
      intro a1 a3 a4 a5 σ H locs ls hw hl hf
      rw [fX12_type_c9_s] at hf
      refine lv_iload hx hb dX12_type_9 (lv_at hl 4 rfl) ?_
      refine lv_if_lt (tgt := 73) hx hb dX12_type_11 (by decide) (fun c11 => ?_) (fun c11 => ?_)
      · replace hf := xif_pos c11 hf
        refine lv_aload_n hx hb dX12_type_73 rfl (lv_at hl 0 rfl) ?_
        refine lv_iload hx hb dX12_type_74 (lv_at hl 3 rfl) ?_
        refine lv_iconst (v := 1) hx hb dX12_type_76 (by decide) ?_
        obtain ⟨r1, σ2, hcl, hf⟩ := xc2_f hf
        refine x_calli (va_runV (As := [.int a4, .int 1]) (rest := []) ⟨hx, hb, hml, hown, hts⟩ (mX12_can hE a4 1 σ r1 σ2 hcl H.size) (cwV 2 hts gX12_type_X12_can rfl rfl rfl (by decide +kernel) ⟨Nat.le_of_ble_eq_true rfl, Nat.le_of_ble_eq_true rfl⟩) (x_preV _ hw hA hG (cM0 hE) rfl) rfl rfl hl.1 rfl (lv_room (Nat.le_of_ble_eq_true rfl)) dX12_type_77 ⟨Nat.le_of_ble_eq_true rfl, Nat.le_of_ble_eq_true rfl⟩) hw hA (fun H locs hw => ?_)
        clear hcl
        refine lv_if_eq (tgt := 107) hx hb dX12_type_80 (by decide) (fun c80 => ?_) (fun c80 => ?_)
        · replace hf := xif_pos c80 hf
          refine lv_iconst (v := 0) hx hb dX12_type_107 (by decide) ?_
          exact x_iret hx hb hr hlk hw hf dX12_type_108
        · replace hf := xif_neg c80 hf
          refine lv_aload_n hx hb dX12_type_83 rfl (lv_at hl 0 rfl) ?_
          refine lv_aload_n hx hb dX12_type_84 rfl (lv_at hl 0 rfl) ?_
          refine x_geti hx hb hw (cM0 hE) (own := RX12) (ref := RX12) (C := RX12) (T := TX12) (N := 20) hts hiX12 hown rfl 6 (by decide) hk248 (fun _ h9 => h9) rfl dX12_type_85 ?_
          refine lv_iload_n hx hb dX12_type_88 rfl (lv_at hl 2 rfl) ?_
          refine lv_iadd hx hb dX12_type_89 ?_
          refine lv_bipush (v := 80) hx hb dX12_type_90 (by decide) ?_
          refine lv_icmp_gt (tgt := 99) hx hb dX12_type_92 (by decide) (fun c92 => ?_) (fun c92 => ?_)
          · replace hf := xif_pos c92 hf
            refine lv_iconst (v := 0) hx hb dX12_type_99 (by decide) ?_
            exact h100 a1 0 σ2 _ _ _ hw (lv_sub hl [0, 1] rfl) hf
          · replace hf := xif_neg c92 hf
            refine lv_iconst (v := 1) hx hb dX12_type_95 (by decide) ?_
            refine lv_goto (tgt := 100) hx hb dX12_type_96 (by decide) ?_
            exact h100 a1 1 σ2 _ _ _ hw (lv_sub hl [0, 1] rfl) hf
      · replace hf := xif_neg c11 hf
        refine lv_lload_n hx hb dX12_type_14 rfl (lv_at hl 1 rfl) ?_
        refine lv_iload hx hb dX12_type_15 (lv_at hl 4 rfl) ?_
        refine lv_lshr hx hb dX12_type_17 rfl ?_
        refine lv_ldc2 hx hb hown (hts (.constantLong RX12 246 (255)) (by decide +kernel)) dX12_type_18 ?_
        refine lv_land hx hb dX12_type_21 ?_
        refine lv_l2i hx hb dX12_type_22 rfl ?_
        refine lv_topi (fun v3 ex => ?_)
        replace hf := xl_f hf v3 ex
        clear ex
        refine lv_istore (lv' := [(6, .int v3), (0, .ref (E.a 0)), (1, .long a1), (3, .int a3), (4, .int a4), (5, .int a5)]) hx hb dX12_type_23 hl (by decide) rfl (fun ls hl => ?_)
        refine lv_iload hx hb dX12_type_25 (lv_at hl 4 rfl) ?_
        refine lv_if_eq (tgt := 51) hx hb dX12_type_27 (by decide) (fun c27 => ?_) (fun c27 => ?_)
        · replace hf := xif_pos c27 hf
          exact h51 a1 a3 a5 v3 σ _ _ _ hw (lv_sub hl [1, 2, 3, 5, 0] rfl) hf
        · replace hf := xif_neg c27 hf
          refine lv_iload hx hb dX12_type_30 (lv_at hl 0 rfl) ?_
          refine lv_if_eq (tgt := 47) hx hb dX12_type_32 (by decide) (fun c32 => ?_) (fun c32 => ?_)
          · replace hf := xif_pos c32 hf
            exact h47 a1 a3 a5 v3 σ _ _ _ hw (lv_sub hl [1, 2, 3, 5, 0] rfl) hf
          · replace hf := xif_neg c32 hf
            refine lv_iload hx hb dX12_type_35 (lv_at hl 0 rfl) ?_
            refine lv_bipush (v := 32) hx hb dX12_type_37 (by decide) ?_
            refine lv_bipush (v := 126) hx hb dX12_type_39 (by decide) ?_
            obtain ⟨r4, σ5, hcl, hf⟩ := xc2_f hf
            refine x_calli (va_runS (As := [.int v3, .int 32, .int 126]) (rest := []) ⟨hx, hb, hml, hown, hts⟩ (mX12_in hE v3 32 126 σ r4 σ5 hcl H.size) (va_cwS 3 hts gX12_type_X12_in rfl rfl rfl (by decide +kernel) ⟨Nat.le_of_ble_eq_true rfl, Nat.le_of_ble_eq_true rfl⟩) (x_preS _ hw hA hG) rfl rfl hl.1 rfl (lv_room (Nat.le_of_ble_eq_true rfl)) dX12_type_41 ⟨Nat.le_of_ble_eq_true rfl, Nat.le_of_ble_eq_true rfl⟩) hw hA (fun H locs hw => ?_)
            clear hcl
            refine lv_if_eq (tgt := 51) hx hb dX12_type_44 (by decide) (fun c44 => ?_) (fun c44 => ?_)
            · replace hf := xif_pos c44 hf
              exact h51 a1 a3 a5 v3 σ5 _ _ _ hw (lv_sub hl [1, 2, 3, 5, 0] rfl) hf
            · replace hf := xif_neg c44 hf
              exact h47 a1 a3 a5 v3 σ5 _ _ _ hw (lv_sub hl [1, 2, 3, 5, 0] rfl) hf
  refine lv_iconst (v := 0) hx hb dX12_type_0 (by decide) ?_
  refine lv_istore_n (lv' := [(3, .int 0), (0, .ref (E.a 0)), (1, .long p0)]) hx hb dX12_type_1 rfl hl (by decide) rfl (fun ls hl => ?_)
  refine lv_iconst (v := 1) hx hb dX12_type_2 (by decide) ?_
  refine lv_istore (lv' := [(4, .int 1), (3, .int 0), (0, .ref (E.a 0)), (1, .long p0)]) hx hb dX12_type_3 hl (by decide) rfl (fun ls hl => ?_)
  refine lv_bipush (v := 56) hx hb dX12_type_5 (by decide) ?_
  refine lv_istore (lv' := [(5, .int 56), (4, .int 1), (3, .int 0), (0, .ref (E.a 0)), (1, .long p0)]) hx hb dX12_type_7 hl (by decide) rfl (fun ls hl => ?_)
  exact h9 xFU p0 0 1 56 σ _ _ _ hw (lv_sub hl [3, 4, 2, 1, 0] rfl) hf

def fX12_at (p0 : Int32) (σ : xSt) : Option (Int32 × xSt) := (if (σ 0 6) ≤ p0 then some (0, σ) else (xr σ 3 80 p0 fun v1 => some (v1, σ)))
abbrev rmX12_at : Room := { frames := 0, cells := 0, slots := 0, locals := 0 }
set_option maxRecDepth 100000 in
set_option maxHeartbeats 4000000 in
theorem mX12_at {l : Launch} {E : xE} (hE : E.sh = shM) (p0 : Int32) (σ : xSt) (o1 : Int32) (o2 : xSt) (hf : fX12_at p0 σ = some (o1, o2)) : xMi l yX12_at wsX12_at rmX12_at E [.ref (E.a 0), .int p0] σ o1 o2 := by
  unfold fX12_at at hf
  refine xMi_of (cc := cX12_at) (maxL := 2) (ret := (some .int)) (by decide) rfl (Nat.le_of_ble_eq_true rfl) ?_
  intro p e s m args below meth c A ls ⟨hx, hb, hr, hml, hown, hts, hlk⟩ hA hG hw hl
  have hown : s.vm.findClass RX12 = some m.cls := hown
  have hl : lv_has ls 2 [(0, .ref (E.a 0)), (1, .int p0)] := hl
  have hk248 := hts (.fieldLink RX12 248 "OvenRoundModel" "length" "I") (by decide +kernel)
  have hiX12 : ∀ w ∈ wsX120, w ∈ wsX12_at := by decide +kernel
  have hk16 := hts (.fieldLink RX12 16 "OvenRoundModel" "text" "[I") (by decide +kernel)
  refine lv_iload_n hx hb dX12_at_0 rfl (lv_at hl 1 rfl) ?_
  refine lv_aload_n hx hb dX12_at_1 rfl (lv_at hl 0 rfl) ?_
  refine x_geti hx hb hw (cM0 hE) (own := RX12) (ref := RX12) (C := RX12) (T := TX12) (N := 20) hts hiX12 hown rfl 6 (by decide) hk248 (fun _ h9 => h9) rfl dX12_at_2 ?_
  refine lv_icmp_ge (tgt := 17) hx hb dX12_at_5 (by decide) (fun c5 => ?_) (fun c5 => ?_)
  · replace hf := xif_pos c5 hf
    refine lv_iconst (v := 0) hx hb dX12_at_17 (by decide) ?_
    exact x_iret hx hb hr hlk hw hf dX12_at_18
  · replace hf := xif_neg c5 hf
    refine lv_aload_n hx hb dX12_at_8 rfl (lv_at hl 0 rfl) ?_
    refine x_getr hx hb hw (cM0 hE) (own := RX12) (ref := RX12) (C := RX12) (T := TX12) (N := 20) hts hiX12 hown rfl 5 (by decide) hk16 (fun _ h9 => h9) rfl dX12_at_9 ?_
    refine lv_iload_n hx hb dX12_at_12 rfl (lv_at hl 1 rfl) ?_
    obtain ⟨hin, hf⟩ := xr_f hf
    refine x_iald hx hb hw (cM3 hE) hin dX12_at_13 ?_
    refine lv_topi (fun v1 ex => ?_)
    replace hf := hf v1 ex
    clear ex hin
    refine lv_goto (tgt := 18) hx hb dX12_at_14 (by decide) ?_
    exact x_iret hx hb hr hlk hw hf dX12_at_18

def fX12_behindBlanks_c2 : Nat → Int32 → xSt → Option (Int32 × xSt)
  | 0 => fun _ _ => none
  | n + 1 => fun a2 σ => (xc2 (fX12_at a2 σ) fun r1 σ2 => (if r1 = 32 then (xl (a2 + 1) fun v3 => fX12_behindBlanks_c2 n v3 σ2) else some (a2, σ2)))
theorem fX12_behindBlanks_c2_s (n : Nat) (a2 : Int32) (σ : xSt) : fX12_behindBlanks_c2 (n + 1) a2 σ = ((xc2 (fX12_at a2 σ) fun r1 σ2 => (if r1 = 32 then (xl (a2 + 1) fun v3 => fX12_behindBlanks_c2 n v3 σ2) else some (a2, σ2))) : Option (Int32 × xSt)) := rfl
def fX12_behindBlanks (p0 : Int32) (σ : xSt) : Option (Int32 × xSt) := fX12_behindBlanks_c2 xFU p0 σ
abbrev rmX12_behindBlanks : Room := { frames := 1, cells := 0, slots := 0, locals := 21 }
set_option maxRecDepth 100000 in
set_option maxHeartbeats 4000000 in
theorem mX12_behindBlanks {l : Launch} {E : xE} (hE : E.sh = shM) (p0 : Int32) (σ : xSt) (o1 : Int32) (o2 : xSt) (hf : fX12_behindBlanks p0 σ = some (o1, o2)) : xMi l yX12_behindBlanks wsX12_behindBlanks rmX12_behindBlanks E [.ref (E.a 0), .int p0] σ o1 o2 := by
  unfold fX12_behindBlanks at hf
  refine xMi_of (cc := cX12_behindBlanks) (maxL := 3) (ret := (some .int)) (by decide) rfl (Nat.le_of_ble_eq_true rfl) ?_
  intro p e s m args below meth c A ls ⟨hx, hb, hr, hml, hown, hts, hlk⟩ hA hG hw hl
  have hown : s.vm.findClass RX12 = some m.cls := hown
  have hl : lv_has ls 3 [(0, .ref (E.a 0)), (1, .int p0)] := hl
  have h2 : ∀ (n : Nat) (a2 : Int32) (σ : xSt) (H : Heap) (locs : List Loc) (ls : Array Slot), xw E A s.heap s σ H locs → lv_has ls 3 [(0, .ref (E.a 0)), (2, .int a2)] → fX12_behindBlanks_c2 n a2 σ = some (o1, o2) → W p l e rmX12_behindBlanks s m args below meth c H locs 0 0 (MQ below (xQi E A o1 o2) args s 0 0 A) (F0 m 2 ls []) := by
    intro n2
    induction n2 with
    | zero => intro a2 σ H locs ls hw hl hf; exact nomatch hf
    | succ n2 ih2 =>
      intro a2 σ H locs ls hw hl hf
      rw [fX12_behindBlanks_c2_s] at hf
      refine lv_aload_n hx hb dX12_behindBlanks_2 rfl (lv_at hl 0 rfl) ?_
      refine lv_iload_n hx hb dX12_behindBlanks_3 rfl (lv_at hl 1 rfl) ?_
      obtain ⟨r1, σ2, hcl, hf⟩ := xc2_f hf
      refine x_calli (va_runV (As := [.int a2]) (rest := []) ⟨hx, hb, hml, hown, hts⟩ (mX12_at hE a2 σ r1 σ2 hcl H.size) (cwV 1 hts gX12_behindBlanks_X12_at rfl rfl rfl (by decide +kernel) ⟨Nat.le_of_ble_eq_true rfl, Nat.le_of_ble_eq_true rfl⟩) (x_preV _ hw hA hG (cM0 hE) rfl) rfl rfl hl.1 rfl (lv_room (Nat.le_of_ble_eq_true rfl)) dX12_behindBlanks_4 ⟨Nat.le_of_ble_eq_true rfl, Nat.le_of_ble_eq_true rfl⟩) hw hA (fun H locs hw => ?_)
      clear hcl
      refine lv_bipush (v := 32) hx hb dX12_behindBlanks_7 (by decide) ?_
      refine lv_icmp_ne (tgt := 18) hx hb dX12_behindBlanks_9 (by decide) (fun c9 => ?_) (fun c9 => ?_)
      · replace hf := xif_neg c9 hf
        refine lv_iload_n hx hb dX12_behindBlanks_18 rfl (lv_at hl 1 rfl) ?_
        exact x_iret hx hb hr hlk hw hf dX12_behindBlanks_19
      · replace hf := xif_pos c9 hf
        obtain ⟨v3, ex⟩ : ∃ y : Int32, y = (a2 + 1) := ⟨_, rfl⟩
        replace hf := xl_f hf v3 ex
        refine lv_iinc (v := v3) (lv' := [(2, .int v3), (0, .ref (E.a 0))]) hx hb dX12_behindBlanks_12 hl (k := 1) rfl (by rw [ex]; rfl) (by decide) rfl (fun ls hl => ?_)
        clear ex
        refine lv_goto (tgt := 2) hx hb dX12_behindBlanks_15 (by decide) ?_
        exact ih2 v3 σ2 _ _ _ hw (lv_sub hl [1, 0] rfl) hf
  refine lv_iload_n hx hb dX12_behindBlanks_0 rfl (lv_at hl 1 rfl) ?_
  refine lv_istore_n (lv' := [(2, .int p0), (0, .ref (E.a 0)), (1, .int p0)]) hx hb dX12_behindBlanks_1 rfl hl (by decide) rfl (fun ls hl => ?_)
  exact h2 xFU p0 σ _ _ _ hw (lv_sub hl [1, 0] rfl) hf

def fX12_behindDigits_c2 : Nat → Int32 → Int32 → xSt → Option (Int32 × xSt)
  | 0 => fun _ _ _ => none
  | n + 1 => fun a1 a2 σ => (if (a1 + 5) ≤ a2 then some (a2, σ) else (xc2 (fX12_at a2 σ) fun r1 σ2 => (xc2 (fX12_in r1 48 57 σ2) fun r3 σ4 => (if r3 = 0 then some (a2, σ4) else (xl (a2 + 1) fun v5 => fX12_behindDigits_c2 n a1 v5 σ4)))))
theorem fX12_behindDigits_c2_s (n : Nat) (a1 : Int32) (a2 : Int32) (σ : xSt) : fX12_behindDigits_c2 (n + 1) a1 a2 σ = ((if (a1 + 5) ≤ a2 then some (a2, σ) else (xc2 (fX12_at a2 σ) fun r1 σ2 => (xc2 (fX12_in r1 48 57 σ2) fun r3 σ4 => (if r3 = 0 then some (a2, σ4) else (xl (a2 + 1) fun v5 => fX12_behindDigits_c2 n a1 v5 σ4))))) : Option (Int32 × xSt)) := rfl
def fX12_behindDigits (p0 : Int32) (σ : xSt) : Option (Int32 × xSt) := fX12_behindDigits_c2 xFU p0 p0 σ
abbrev rmX12_behindDigits : Room := { frames := 1, cells := 0, slots := 0, locals := 22 }
set_option maxRecDepth 100000 in
set_option maxHeartbeats 4000000 in
theorem mX12_behindDigits {l : Launch} {E : xE} (hE : E.sh = shM) (p0 : Int32) (σ : xSt) (o1 : Int32) (o2 : xSt) (hf : fX12_behindDigits p0 σ = some (o1, o2)) : xMi l yX12_behindDigits wsX12_behindDigits rmX12_behindDigits E [.ref (E.a 0), .int p0] σ o1 o2 := by
  unfold fX12_behindDigits at hf
  refine xMi_of (cc := cX12_behindDigits) (maxL := 3) (ret := (some .int)) (by decide) rfl (Nat.le_of_ble_eq_true rfl) ?_
  intro p e s m args below meth c A ls ⟨hx, hb, hr, hml, hown, hts, hlk⟩ hA hG hw hl
  have hown : s.vm.findClass RX12 = some m.cls := hown
  have hl : lv_has ls 3 [(0, .ref (E.a 0)), (1, .int p0)] := hl
  have h2 : ∀ (n : Nat) (a1 : Int32) (a2 : Int32) (σ : xSt) (H : Heap) (locs : List Loc) (ls : Array Slot), xw E A s.heap s σ H locs → lv_has ls 3 [(0, .ref (E.a 0)), (1, .int a1), (2, .int a2)] → fX12_behindDigits_c2 n a1 a2 σ = some (o1, o2) → W p l e rmX12_behindDigits s m args below meth c H locs 0 0 (MQ below (xQi E A o1 o2) args s 0 0 A) (F0 m 2 ls []) := by
    intro n2
    induction n2 with
    | zero => intro a1 a2 σ H locs ls hw hl hf; exact nomatch hf
    | succ n2 ih2 =>
      intro a1 a2 σ H locs ls hw hl hf
      rw [fX12_behindDigits_c2_s] at hf
      refine lv_iload_n hx hb dX12_behindDigits_2 rfl (lv_at hl 2 rfl) ?_
      refine lv_iload_n hx hb dX12_behindDigits_3 rfl (lv_at hl 1 rfl) ?_
      refine lv_iconst (v := 5) hx hb dX12_behindDigits_4 (by decide) ?_
      refine lv_iadd hx hb dX12_behindDigits_5 ?_
      refine lv_icmp_ge (tgt := 30) hx hb dX12_behindDigits_6 (by decide) (fun c6 => ?_) (fun c6 => ?_)
      · replace hf := xif_pos c6 hf
        refine lv_iload_n hx hb dX12_behindDigits_30 rfl (lv_at hl 2 rfl) ?_
        exact x_iret hx hb hr hlk hw hf dX12_behindDigits_31
      · replace hf := xif_neg c6 hf
        refine lv_aload_n hx hb dX12_behindDigits_9 rfl (lv_at hl 0 rfl) ?_
        refine lv_iload_n hx hb dX12_behindDigits_10 rfl (lv_at hl 2 rfl) ?_
        obtain ⟨r1, σ2, hcl, hf⟩ := xc2_f hf
        refine x_calli (va_runV (As := [.int a2]) (rest := []) ⟨hx, hb, hml, hown, hts⟩ (mX12_at hE a2 σ r1 σ2 hcl H.size) (cwV 1 hts gX12_behindDigits_X12_at rfl rfl rfl (by decide +kernel) ⟨Nat.le_of_ble_eq_true rfl, Nat.le_of_ble_eq_true rfl⟩) (x_preV _ hw hA hG (cM0 hE) rfl) rfl rfl hl.1 rfl (lv_room (Nat.le_of_ble_eq_true rfl)) dX12_behindDigits_11 ⟨Nat.le_of_ble_eq_true rfl, Nat.le_of_ble_eq_true rfl⟩) hw hA (fun H locs hw => ?_)
        clear hcl
        refine lv_bipush (v := 48) hx hb dX12_behindDigits_14 (by decide) ?_
        refine lv_bipush (v := 57) hx hb dX12_behindDigits_16 (by decide) ?_
        obtain ⟨r3, σ4, hcl, hf⟩ := xc2_f hf
        refine x_calli (va_runS (As := [.int r1, .int 48, .int 57]) (rest := []) ⟨hx, hb, hml, hown, hts⟩ (mX12_in hE r1 48 57 σ2 r3 σ4 hcl H.size) (va_cwS 3 hts gX12_behindDigits_X12_in rfl rfl rfl (by decide +kernel) ⟨Nat.le_of_ble_eq_true rfl, Nat.le_of_ble_eq_true rfl⟩) (x_preS _ hw hA hG) rfl rfl hl.1 rfl (lv_room (Nat.le_of_ble_eq_true rfl)) dX12_behindDigits_18 ⟨Nat.le_of_ble_eq_true rfl, Nat.le_of_ble_eq_true rfl⟩) hw hA (fun H locs hw => ?_)
        clear hcl
        refine lv_if_eq (tgt := 30) hx hb dX12_behindDigits_21 (by decide) (fun c21 => ?_) (fun c21 => ?_)
        · replace hf := xif_pos c21 hf
          refine lv_iload_n hx hb dX12_behindDigits_30 rfl (lv_at hl 2 rfl) ?_
          exact x_iret hx hb hr hlk hw hf dX12_behindDigits_31
        · replace hf := xif_neg c21 hf
          obtain ⟨v5, ex⟩ : ∃ y : Int32, y = (a2 + 1) := ⟨_, rfl⟩
          replace hf := xl_f hf v5 ex
          refine lv_iinc (v := v5) (lv' := [(2, .int v5), (0, .ref (E.a 0)), (1, .int a1)]) hx hb dX12_behindDigits_24 hl (k := 2) rfl (by rw [ex]; rfl) (by decide) rfl (fun ls hl => ?_)
          clear ex
          refine lv_goto (tgt := 2) hx hb dX12_behindDigits_27 (by decide) ?_
          exact ih2 a1 v5 σ4 _ _ _ hw (lv_sub hl [1, 2, 0] rfl) hf
  refine lv_iload_n hx hb dX12_behindDigits_0 rfl (lv_at hl 1 rfl) ?_
  refine lv_istore_n (lv' := [(2, .int p0), (0, .ref (E.a 0)), (1, .int p0)]) hx hb dX12_behindDigits_1 rfl hl (by decide) rfl (fun ls hl => ?_)
  exact h2 xFU p0 p0 σ _ _ _ hw (lv_sub hl [1, 2, 0] rfl) hf

def fX12_number_c5 : Nat → Int32 → Int32 → Int32 → xSt → Option (Int32 × xSt)
  | 0 => fun _ _ _ _ => none
  | n + 1 => fun a2 a3 a4 σ => (if a2 ≤ a4 then some (a3, σ) else (xr σ 3 80 a4 fun v1 => (xl (((10 * a3) + v1) - 48) fun v2 => (xl (a4 + 1) fun v3 => fX12_number_c5 n a2 v2 v3 σ))))
theorem fX12_number_c5_s (n : Nat) (a2 : Int32) (a3 : Int32) (a4 : Int32) (σ : xSt) : fX12_number_c5 (n + 1) a2 a3 a4 σ = ((if a2 ≤ a4 then some (a3, σ) else (xr σ 3 80 a4 fun v1 => (xl (((10 * a3) + v1) - 48) fun v2 => (xl (a4 + 1) fun v3 => fX12_number_c5 n a2 v2 v3 σ)))) : Option (Int32 × xSt)) := rfl
def fX12_number (p0 : Int32) (p1 : Int32) (σ : xSt) : Option (Int32 × xSt) := fX12_number_c5 xFU p1 0 p0 σ
abbrev rmX12_number : Room := { frames := 0, cells := 0, slots := 0, locals := 0 }
set_option maxRecDepth 100000 in
set_option maxHeartbeats 4000000 in
theorem mX12_number {l : Launch} {E : xE} (hE : E.sh = shM) (p0 : Int32) (p1 : Int32) (σ : xSt) (o1 : Int32) (o2 : xSt) (hf : fX12_number p0 p1 σ = some (o1, o2)) : xMi l yX12_number wsX12_number rmX12_number E [.ref (E.a 0), .int p0, .int p1] σ o1 o2 := by
  unfold fX12_number at hf
  refine xMi_of (cc := cX12_number) (maxL := 5) (ret := (some .int)) (by decide) rfl (Nat.le_of_ble_eq_true rfl) ?_
  intro p e s m args below meth c A ls ⟨hx, hb, hr, hml, hown, hts, hlk⟩ hA hG hw hl
  have hown : s.vm.findClass RX12 = some m.cls := hown
  have hl : lv_has ls 5 [(0, .ref (E.a 0)), (1, .int p0), (2, .int p1)] := hl
  have hk16 := hts (.fieldLink RX12 16 "OvenRoundModel" "text" "[I") (by decide +kernel)
  have hiX12 : ∀ w ∈ wsX120, w ∈ wsX12_number := by decide +kernel
  have h5 : ∀ (n : Nat) (a2 : Int32) (a3 : Int32) (a4 : Int32) (σ : xSt) (H : Heap) (locs : List Loc) (ls : Array Slot), xw E A s.heap s σ H locs → lv_has ls 5 [(0, .ref (E.a 0)), (2, .int a2), (3, .int a3), (4, .int a4)] → fX12_number_c5 n a2 a3 a4 σ = some (o1, o2) → W p l e rmX12_number s m args below meth c H locs 0 0 (MQ below (xQi E A o1 o2) args s 0 0 A) (F0 m 5 ls []) := by
    intro n5
    induction n5 with
    | zero => intro a2 a3 a4 σ H locs ls hw hl hf; exact nomatch hf
    | succ n5 ih5 =>
      intro a2 a3 a4 σ H locs ls hw hl hf
      rw [fX12_number_c5_s] at hf
      refine lv_iload hx hb dX12_number_5 (lv_at hl 3 rfl) ?_
      refine lv_iload_n hx hb dX12_number_7 rfl (lv_at hl 1 rfl) ?_
      refine lv_icmp_ge (tgt := 33) hx hb dX12_number_8 (by decide) (fun c8 => ?_) (fun c8 => ?_)
      · replace hf := xif_pos c8 hf
        refine lv_iload_n hx hb dX12_number_33 rfl (lv_at hl 2 rfl) ?_
        exact x_iret hx hb hr hlk hw hf dX12_number_34
      · replace hf := xif_neg c8 hf
        refine lv_bipush (v := 10) hx hb dX12_number_11 (by decide) ?_
        refine lv_iload_n hx hb dX12_number_13 rfl (lv_at hl 2 rfl) ?_
        refine lv_imul hx hb dX12_number_14 ?_
        refine lv_aload_n hx hb dX12_number_15 rfl (lv_at hl 0 rfl) ?_
        refine x_getr hx hb hw (cM0 hE) (own := RX12) (ref := RX12) (C := RX12) (T := TX12) (N := 20) hts hiX12 hown rfl 5 (by decide) hk16 (fun _ h9 => h9) rfl dX12_number_16 ?_
        refine lv_iload hx hb dX12_number_19 (lv_at hl 3 rfl) ?_
        obtain ⟨hin, hf⟩ := xr_f hf
        refine x_iald hx hb hw (cM3 hE) hin dX12_number_21 ?_
        refine lv_topi (fun v1 ex => ?_)
        replace hf := hf v1 ex
        clear ex hin
        refine lv_iadd hx hb dX12_number_22 ?_
        refine lv_bipush (v := 48) hx hb dX12_number_23 (by decide) ?_
        refine lv_isub hx hb dX12_number_25 ?_
        refine lv_topi (fun v2 ex => ?_)
        replace hf := xl_f hf v2 ex
        clear ex
        refine lv_istore_n (lv' := [(3, .int v2), (0, .ref (E.a 0)), (2, .int a2), (4, .int a4)]) hx hb dX12_number_26 rfl hl (by decide) rfl (fun ls hl => ?_)
        obtain ⟨v3, ex⟩ : ∃ y : Int32, y = (a4 + 1) := ⟨_, rfl⟩
        replace hf := xl_f hf v3 ex
        refine lv_iinc (v := v3) (lv' := [(4, .int v3), (3, .int v2), (0, .ref (E.a 0)), (2, .int a2)]) hx hb dX12_number_27 hl (k := 3) rfl (by rw [ex]; rfl) (by decide) rfl (fun ls hl => ?_)
        clear ex
        refine lv_goto (tgt := 5) hx hb dX12_number_30 (by decide) ?_
        exact ih5 a2 v2 v3 σ _ _ _ hw (lv_sub hl [2, 3, 1, 0] rfl) hf
  refine lv_iconst (v := 0) hx hb dX12_number_0 (by decide) ?_
  refine lv_istore_n (lv' := [(3, .int 0), (0, .ref (E.a 0)), (1, .int p0), (2, .int p1)]) hx hb dX12_number_1 rfl hl (by decide) rfl (fun ls hl => ?_)
  refine lv_iload_n hx hb dX12_number_2 rfl (lv_at hl 2 rfl) ?_
  refine lv_istore (lv' := [(4, .int p0), (3, .int 0), (0, .ref (E.a 0)), (1, .int p0), (2, .int p1)]) hx hb dX12_number_3 hl (by decide) rfl (fun ls hl => ?_)
  exact h5 xFU p1 0 p0 σ _ _ _ hw (lv_sub hl [2, 4, 1, 0] rfl) hf

def fX12_faultNow_c218 (k27 : (Int32 → Int32 → Int32 → xSt → Option (Int32 × xSt))) (a1 : Int32) (a2 : Int32) (t0 : Int32) (σ : xSt) : Option (Int32 × xSt) := (if t0 = 0 then (xl (a1 + 0) fun v26 => k27 v26 a2 t0 σ) else (xl (a1 + 1) fun v27 => k27 v27 a2 t0 σ))
def fX12_faultNow_c164 (a4 : Int32) (a5 : Int32) (σ : xSt) : Option (Int32 × xSt) := (if a5 = a4 then some (a4, σ) else some ((a4 + 4), σ))
def fX12_faultNow_c62 (a4 : Int32) (a5 : Int32) (σ : xSt) : Option (Int32 × xSt) := (if a5 = a4 then some (a4, σ) else some ((a4 + 4), σ))
def fX12_faultNow_c27 : Nat → Int32 → Int32 → Int32 → xSt → Option (Int32 × xSt)
  | 0 => fun _ _ _ _ => none
  | n + 1 => fun a1 a2 a3 σ => (if a3 = 0 then (if a1 = (σ 0 6) then some ((-1), σ) else some (a1, σ)) else (xc2 (fX12_behindBlanks a1 σ) fun r3 σ4 => (xc2 (fX12_behindDigits r3 σ4) fun r5 σ6 => (if r5 = r3 then fX12_faultNow_c62 r3 r5 σ6 else (if (r5 - r3) = 5 then fX12_faultNow_c62 r3 r5 σ6 else (xc2 (fX12_number r3 r5 σ6) fun r7 σ8 => (xc2 (fX12_in r7 (a2 + 1) 7 σ8) fun r9 σ10 => (if r9 = 0 then some (r3, σ10) else (xc2 (fX12_behindBlanks r5 σ10) fun r11 σ12 => (xc2 (fX12_at r11 σ12) fun r13 σ14 => (if r13 = 58 then (xc2 (fX12_behindBlanks (r11 + 1) σ14) fun r15 σ16 => (xc2 (fX12_behindDigits r15 σ16) fun r17 σ18 => (if r17 = r15 then fX12_faultNow_c164 r15 r17 σ18 else (if (r17 - r15) = 5 then fX12_faultNow_c164 r15 r17 σ18 else (xc2 (fX12_number r15 r17 σ18) fun r19 σ20 => (xs σ20 4 8 r7 r19 fun σ21 => (xc2 (fX12_behindBlanks r17 σ21) fun r22 σ23 => (xc2 (fX12_at r22 σ23) fun r24 σ25 => (if r24 = 44 then fX12_faultNow_c218 (fX12_faultNow_c27 n) r22 r7 1 σ25 else fX12_faultNow_c218 (fX12_faultNow_c27 n) r22 r7 0 σ25))))))))) else some (r11, σ14))))))))))))
theorem fX12_faultNow_c27_s (n : Nat) (a1 : Int32) (a2 : Int32) (a3 : Int32) (σ : xSt) : fX12_faultNow_c27 (n + 1) a1 a2 a3 σ = ((if a3 = 0 then (if a1 = (σ 0 6) then some ((-1), σ) else some (a1, σ)) else (xc2 (fX12_behindBlanks a1 σ) fun r3 σ4 => (xc2 (fX12_behindDigits r3 σ4) fun r5 σ6 => (if r5 = r3 then fX12_faultNow_c62 r3 r5 σ6 else (if (r5 - r3) = 5 then fX12_faultNow_c62 r3 r5 σ6 else (xc2 (fX12_number r3 r5 σ6) fun r7 σ8 => (xc2 (fX12_in r7 (a2 + 1) 7 σ8) fun r9 σ10 => (if r9 = 0 then some (r3, σ10) else (xc2 (fX12_behindBlanks r5 σ10) fun r11 σ12 => (xc2 (fX12_at r11 σ12) fun r13 σ14 => (if r13 = 58 then (xc2 (fX12_behindBlanks (r11 + 1) σ14) fun r15 σ16 => (xc2 (fX12_behindDigits r15 σ16) fun r17 σ18 => (if r17 = r15 then fX12_faultNow_c164 r15 r17 σ18 else (if (r17 - r15) = 5 then fX12_faultNow_c164 r15 r17 σ18 else (xc2 (fX12_number r15 r17 σ18) fun r19 σ20 => (xs σ20 4 8 r7 r19 fun σ21 => (xc2 (fX12_behindBlanks r17 σ21) fun r22 σ23 => (xc2 (fX12_at r22 σ23) fun r24 σ25 => (if r24 = 44 then fX12_faultNow_c218 (fX12_faultNow_c27 n) r22 r7 1 σ25 else fX12_faultNow_c218 (fX12_faultNow_c27 n) r22 r7 0 σ25))))))))) else some (r11, σ14)))))))))))) : Option (Int32 × xSt)) := rfl
def fX12_faultNow_c2 : Nat → Int32 → xSt → Option (Int32 × xSt)
  | 0 => fun _ _ => none
  | n + 1 => fun a1 σ => (if 8 ≤ a1 then fX12_faultNow_c27 xFU 0 (-1) 1 σ else (xs σ 4 8 a1 0 fun σ1 => (xl (a1 + 1) fun v2 => fX12_faultNow_c2 n v2 σ1)))
theorem fX12_faultNow_c2_s (n : Nat) (a1 : Int32) (σ : xSt) : fX12_faultNow_c2 (n + 1) a1 σ = ((if 8 ≤ a1 then fX12_faultNow_c27 xFU 0 (-1) 1 σ else (xs σ 4 8 a1 0 fun σ1 => (xl (a1 + 1) fun v2 => fX12_faultNow_c2 n v2 σ1))) : Option (Int32 × xSt)) := rfl
def fX12_faultNow (σ : xSt) : Option (Int32 × xSt) := fX12_faultNow_c2 xFU 0 σ
abbrev rmX12_faultNow : Room := { frames := 2, cells := 0, slots := 0, locals := 44 }
set_option maxRecDepth 100000 in
set_option maxHeartbeats 4000000 in
theorem mX12_faultNow {l : Launch} {E : xE} (hE : E.sh = shM) (σ : xSt) (o1 : Int32) (o2 : xSt) (hf : fX12_faultNow σ = some (o1, o2)) : xMi l yX12_faultNow wsX12_faultNow rmX12_faultNow E [.ref (E.a 0)] σ o1 o2 := by
  unfold fX12_faultNow at hf
  refine xMi_of (cc := cX12_faultNow) (maxL := 8) (ret := (some .int)) (by decide) rfl (Nat.le_of_ble_eq_true rfl) ?_
  intro p e s m args below meth c A ls ⟨hx, hb, hr, hml, hown, hts, hlk⟩ hA hG hw hl
  have hown : s.vm.findClass RX12 = some m.cls := hown
  have hl : lv_has ls 8 [(0, .ref (E.a 0))] := hl
  have hk19 := hts (.fieldLink RX12 19 "OvenRoundModel" "read" "[I") (by decide +kernel)
  have hiX12 : ∀ w ∈ wsX120, w ∈ wsX12_faultNow := by decide +kernel
  have hk248 := hts (.fieldLink RX12 248 "OvenRoundModel" "length" "I") (by decide +kernel)
  have h164 : ∀ (a4 : Int32) (a5 : Int32) (σ : xSt) (H : Heap) (locs : List Loc) (ls : Array Slot), xw E A s.heap s σ H locs → lv_has ls 8 [(4, .int a4), (5, .int a5)] → fX12_faultNow_c164 a4 a5 σ = some (o1, o2) → W p l e rmX12_faultNow s m args below meth c H locs 0 0 (MQ below (xQi E A o1 o2) args s 0 0 A) (F0 m 164 ls []) := by
    intro a4 a5 σ H locs ls hw hl hf
    unfold fX12_faultNow_c164 at hf
    refine lv_iload hx hb dX12_faultNow_164 (lv_at hl 1 rfl) ?_
    refine lv_iload hx hb dX12_faultNow_166 (lv_at hl 0 rfl) ?_
    refine lv_icmp_ne (tgt := 176) hx hb dX12_faultNow_168 (by decide) (fun c168 => ?_) (fun c168 => ?_)
    · replace hf := xif_neg c168 hf
      refine lv_iload hx hb dX12_faultNow_176 (lv_at hl 0 rfl) ?_
      refine lv_iconst (v := 4) hx hb dX12_faultNow_178 (by decide) ?_
      refine lv_iadd hx hb dX12_faultNow_179 ?_
      exact x_iret hx hb hr hlk hw hf dX12_faultNow_180
    · replace hf := xif_pos c168 hf
      refine lv_iload hx hb dX12_faultNow_171 (lv_at hl 0 rfl) ?_
      refine lv_goto (tgt := 180) hx hb dX12_faultNow_173 (by decide) ?_
      exact x_iret hx hb hr hlk hw hf dX12_faultNow_180
  have h62 : ∀ (a4 : Int32) (a5 : Int32) (σ : xSt) (H : Heap) (locs : List Loc) (ls : Array Slot), xw E A s.heap s σ H locs → lv_has ls 8 [(4, .int a4), (5, .int a5)] → fX12_faultNow_c62 a4 a5 σ = some (o1, o2) → W p l e rmX12_faultNow s m args below meth c H locs 0 0 (MQ below (xQi E A o1 o2) args s 0 0 A) (F0 m 62 ls []) := by
    intro a4 a5 σ H locs ls hw hl hf
    unfold fX12_faultNow_c62 at hf
    refine lv_iload hx hb dX12_faultNow_62 (lv_at hl 1 rfl) ?_
    refine lv_iload hx hb dX12_faultNow_64 (lv_at hl 0 rfl) ?_
    refine lv_icmp_ne (tgt := 74) hx hb dX12_faultNow_66 (by decide) (fun c66 => ?_) (fun c66 => ?_)
    · replace hf := xif_neg c66 hf
      refine lv_iload hx hb dX12_faultNow_74 (lv_at hl 0 rfl) ?_
      refine lv_iconst (v := 4) hx hb dX12_faultNow_76 (by decide) ?_
      refine lv_iadd hx hb dX12_faultNow_77 ?_
      exact x_iret hx hb hr hlk hw hf dX12_faultNow_78
    · replace hf := xif_pos c66 hf
      refine lv_iload hx hb dX12_faultNow_69 (lv_at hl 0 rfl) ?_
      refine lv_goto (tgt := 78) hx hb dX12_faultNow_71 (by decide) ?_
      exact x_iret hx hb hr hlk hw hf dX12_faultNow_78
  have h27 : ∀ (n : Nat) (a1 : Int32) (a2 : Int32) (a3 : Int32) (σ : xSt) (H : Heap) (locs : List Loc) (ls : Array Slot), xw E A s.heap s σ H locs → lv_has ls 8 [(0, .ref (E.a 0)), (1, .int a1), (2, .int a2), (3, .int a3)] → fX12_faultNow_c27 n a1 a2 a3 σ = some (o1, o2) → W p l e rmX12_faultNow s m args below meth c H locs 0 0 (MQ below (xQi E A o1 o2) args s 0 0 A) (F0 m 27 ls []) := by
    intro n27
    induction n27 with
    | zero => intro a1 a2 a3 σ H locs ls hw hl hf; exact nomatch hf
    | succ n27 ih27 =>
      have h218 : ∀ (a1 : Int32) (a2 : Int32) (t0 : Int32) (σ : xSt) (H : Heap) (locs : List Loc) (ls : Array Slot), xw E A s.heap s σ H locs → lv_has ls 8 [(0, .ref (E.a 0)), (1, .int a1), (2, .int a2)] → fX12_faultNow_c218 (fX12_faultNow_c27 n27) a1 a2 t0 σ = some (o1, o2) → W p l e rmX12_faultNow s m args below meth c H locs 0 0 (MQ below (xQi E A o1 o2) args s 0 0 A) (F0 m 218 ls [.int t0]) := by
        intro a1 a2 t0 σ H locs ls hw hl hf
        unfold fX12_faultNow_c218 at hf
        refine lv_istore_n (lv' := [(3, .int t0), (0, .ref (E.a 0)), (1, .int a1), (2, .int a2)]) hx hb dX12_faultNow_218 rfl hl (by decide) rfl (fun ls hl => ?_)
        refine lv_iload_n hx hb dX12_faultNow_219 rfl (lv_at hl 2 rfl) ?_
        refine lv_iload_n hx hb dX12_faultNow_220 rfl (lv_at hl 0 rfl) ?_
        refine lv_if_eq (tgt := 228) hx hb dX12_faultNow_221 (by decide) (fun c221 => ?_) (fun c221 => ?_)
        · replace hf := xif_pos c221 hf
          refine lv_iconst (v := 0) hx hb dX12_faultNow_228 (by decide) ?_
          refine lv_iadd hx hb dX12_faultNow_229 ?_
          refine lv_topi (fun v26 ex => ?_)
          replace hf := xl_f hf v26 ex
          clear ex
          refine lv_istore_n (lv' := [(1, .int v26), (3, .int t0), (0, .ref (E.a 0)), (2, .int a2)]) hx hb dX12_faultNow_230 rfl hl (by decide) rfl (fun ls hl => ?_)
          refine lv_goto (tgt := 27) hx hb dX12_faultNow_231 (by decide) ?_
          exact ih27 v26 a2 t0 σ _ _ _ hw (lv_sub hl [2, 0, 3, 1] rfl) hf
        · replace hf := xif_neg c221 hf
          refine lv_iconst (v := 1) hx hb dX12_faultNow_224 (by decide) ?_
          refine lv_goto (tgt := 229) hx hb dX12_faultNow_225 (by decide) ?_
          refine lv_iadd hx hb dX12_faultNow_229 ?_
          refine lv_topi (fun v27 ex => ?_)
          replace hf := xl_f hf v27 ex
          clear ex
          refine lv_istore_n (lv' := [(1, .int v27), (3, .int t0), (0, .ref (E.a 0)), (2, .int a2)]) hx hb dX12_faultNow_230 rfl hl (by decide) rfl (fun ls hl => ?_)
          refine lv_goto (tgt := 27) hx hb dX12_faultNow_231 (by decide) ?_
          exact ih27 v27 a2 t0 σ _ _ _ hw (lv_sub hl [2, 0, 3, 1] rfl) hf
      intro a1 a2 a3 σ H locs ls hw hl hf
      rw [fX12_faultNow_c27_s] at hf
      refine lv_iload_n hx hb dX12_faultNow_27 rfl (lv_at hl 3 rfl) ?_
      refine lv_if_eq (tgt := 234) hx hb dX12_faultNow_28 (by decide) (fun c28 => ?_) (fun c28 => ?_)
      · replace hf := xif_pos c28 hf
        refine lv_iload_n hx hb dX12_faultNow_234 rfl (lv_at hl 1 rfl) ?_
        refine lv_aload_n hx hb dX12_faultNow_235 rfl (lv_at hl 0 rfl) ?_
        refine x_geti hx hb hw (cM0 hE) (own := RX12) (ref := RX12) (C := RX12) (T := TX12) (N := 20) hts hiX12 hown rfl 6 (by decide) hk248 (fun _ h9 => h9) rfl dX12_faultNow_236 ?_
        refine lv_icmp_ne (tgt := 246) hx hb dX12_faultNow_239 (by decide) (fun c239 => ?_) (fun c239 => ?_)
        · replace hf := xif_neg c239 hf
          refine lv_iload_n hx hb dX12_faultNow_246 rfl (lv_at hl 1 rfl) ?_
          exact x_iret hx hb hr hlk hw hf dX12_faultNow_247
        · replace hf := xif_pos c239 hf
          refine lv_iconst (v := (-1)) hx hb dX12_faultNow_242 (by decide) ?_
          refine lv_goto (tgt := 247) hx hb dX12_faultNow_243 (by decide) ?_
          exact x_iret hx hb hr hlk hw hf dX12_faultNow_247
      · replace hf := xif_neg c28 hf
        refine lv_aload_n hx hb dX12_faultNow_31 rfl (lv_at hl 0 rfl) ?_
        refine lv_iload_n hx hb dX12_faultNow_32 rfl (lv_at hl 1 rfl) ?_
        obtain ⟨r3, σ4, hcl, hf⟩ := xc2_f hf
        refine x_calli (va_runV (As := [.int a1]) (rest := []) ⟨hx, hb, hml, hown, hts⟩ (mX12_behindBlanks hE a1 σ r3 σ4 hcl H.size) (cwV 1 hts gX12_faultNow_X12_behindBlanks rfl rfl rfl (by decide +kernel) ⟨Nat.le_of_ble_eq_true rfl, Nat.le_of_ble_eq_true rfl⟩) (x_preV _ hw hA hG (cM0 hE) rfl) rfl rfl hl.1 rfl (lv_room (Nat.le_of_ble_eq_true rfl)) dX12_faultNow_33 ⟨Nat.le_of_ble_eq_true rfl, Nat.le_of_ble_eq_true rfl⟩) hw hA (fun H locs hw => ?_)
        clear hcl
        refine lv_istore (lv' := [(4, .int r3), (0, .ref (E.a 0)), (1, .int a1), (2, .int a2), (3, .int a3)]) hx hb dX12_faultNow_36 hl (by decide) rfl (fun ls hl => ?_)
        refine lv_aload_n hx hb dX12_faultNow_38 rfl (lv_at hl 1 rfl) ?_
        refine lv_iload hx hb dX12_faultNow_39 (lv_at hl 0 rfl) ?_
        obtain ⟨r5, σ6, hcl, hf⟩ := xc2_f hf
        refine x_calli (va_runV (As := [.int r3]) (rest := []) ⟨hx, hb, hml, hown, hts⟩ (mX12_behindDigits hE r3 σ4 r5 σ6 hcl H.size) (cwV 1 hts gX12_faultNow_X12_behindDigits rfl rfl rfl (by decide +kernel) ⟨Nat.le_of_ble_eq_true rfl, Nat.le_of_ble_eq_true rfl⟩) (x_preV _ hw hA hG (cM0 hE) rfl) rfl rfl hl.1 rfl (lv_room (Nat.le_of_ble_eq_true rfl)) dX12_faultNow_41 ⟨Nat.le_of_ble_eq_true rfl, Nat.le_of_ble_eq_true rfl⟩) hw hA (fun H locs hw => ?_)
        clear hcl
        refine lv_istore (lv' := [(5, .int r5), (4, .int r3), (0, .ref (E.a 0)), (1, .int a1), (2, .int a2), (3, .int a3)]) hx hb dX12_faultNow_44 hl (by decide) rfl (fun ls hl => ?_)
        refine lv_iload hx hb dX12_faultNow_46 (lv_at hl 0 rfl) ?_
        refine lv_iload hx hb dX12_faultNow_48 (lv_at hl 1 rfl) ?_
        refine lv_icmp_eq (tgt := 62) hx hb dX12_faultNow_50 (by decide) (fun c50 => ?_) (fun c50 => ?_)
        · replace hf := xif_pos c50 hf
          exact h62 r3 r5 σ6 _ _ _ hw (lv_sub hl [1, 0] rfl) hf
        · replace hf := xif_neg c50 hf
          refine lv_iload hx hb dX12_faultNow_53 (lv_at hl 0 rfl) ?_
          refine lv_iload hx hb dX12_faultNow_55 (lv_at hl 1 rfl) ?_
          refine lv_isub hx hb dX12_faultNow_57 ?_
          refine lv_iconst (v := 5) hx hb dX12_faultNow_58 (by decide) ?_
          refine lv_icmp_ne (tgt := 79) hx hb dX12_faultNow_59 (by decide) (fun c59 => ?_) (fun c59 => ?_)
          · replace hf := xif_neg c59 hf
            refine lv_aload_n hx hb dX12_faultNow_79 rfl (lv_at hl 2 rfl) ?_
            refine lv_iload hx hb dX12_faultNow_80 (lv_at hl 1 rfl) ?_
            refine lv_iload hx hb dX12_faultNow_82 (lv_at hl 0 rfl) ?_
            obtain ⟨r7, σ8, hcl, hf⟩ := xc2_f hf
            refine x_calli (va_runV (As := [.int r3, .int r5]) (rest := []) ⟨hx, hb, hml, hown, hts⟩ (mX12_number hE r3 r5 σ6 r7 σ8 hcl H.size) (cwV 2 hts gX12_faultNow_X12_number rfl rfl rfl (by decide +kernel) ⟨Nat.le_of_ble_eq_true rfl, Nat.le_of_ble_eq_true rfl⟩) (x_preV _ hw hA hG (cM0 hE) rfl) rfl rfl hl.1 rfl (lv_room (Nat.le_of_ble_eq_true rfl)) dX12_faultNow_84 ⟨Nat.le_of_ble_eq_true rfl, Nat.le_of_ble_eq_true rfl⟩) hw hA (fun H locs hw => ?_)
            clear hcl
            refine lv_istore (lv' := [(6, .int r7), (5, .int r5), (4, .int r3), (0, .ref (E.a 0)), (1, .int a1), (2, .int a2), (3, .int a3)]) hx hb dX12_faultNow_87 hl (by decide) rfl (fun ls hl => ?_)
            refine lv_iload hx hb dX12_faultNow_89 (lv_at hl 0 rfl) ?_
            refine lv_iload_n hx hb dX12_faultNow_91 rfl (lv_at hl 5 rfl) ?_
            refine lv_iconst (v := 1) hx hb dX12_faultNow_92 (by decide) ?_
            refine lv_iadd hx hb dX12_faultNow_93 ?_
            refine lv_bipush (v := 7) hx hb dX12_faultNow_94 (by decide) ?_
            obtain ⟨r9, σ10, hcl, hf⟩ := xc2_f hf
            refine x_calli (va_runS (As := [.int r7, .int (a2 + 1), .int 7]) (rest := []) ⟨hx, hb, hml, hown, hts⟩ (mX12_in hE r7 (a2 + 1) 7 σ8 r9 σ10 hcl H.size) (va_cwS 3 hts gX12_faultNow_X12_in rfl rfl rfl (by decide +kernel) ⟨Nat.le_of_ble_eq_true rfl, Nat.le_of_ble_eq_true rfl⟩) (x_preS _ hw hA hG) rfl rfl hl.1 rfl (lv_room (Nat.le_of_ble_eq_true rfl)) dX12_faultNow_96 ⟨Nat.le_of_ble_eq_true rfl, Nat.le_of_ble_eq_true rfl⟩) hw hA (fun H locs hw => ?_)
            clear hcl
            refine lv_if_ne (tgt := 105) hx hb dX12_faultNow_99 (by decide) (fun c99 => ?_) (fun c99 => ?_)
            · replace hf := xif_neg c99 hf
              refine lv_iload hx hb dX12_faultNow_105 (lv_at hl 0 rfl) ?_
              refine lv_istore_n (lv' := [(2, .int r7), (6, .int r7), (5, .int r5), (4, .int r3), (0, .ref (E.a 0)), (1, .int a1), (3, .int a3)]) hx hb dX12_faultNow_107 rfl hl (by decide) rfl (fun ls hl => ?_)
              refine lv_aload_n hx hb dX12_faultNow_108 rfl (lv_at hl 4 rfl) ?_
              refine lv_iload hx hb dX12_faultNow_109 (lv_at hl 2 rfl) ?_
              obtain ⟨r11, σ12, hcl, hf⟩ := xc2_f hf
              refine x_calli (va_runV (As := [.int r5]) (rest := []) ⟨hx, hb, hml, hown, hts⟩ (mX12_behindBlanks hE r5 σ10 r11 σ12 hcl H.size) (cwV 1 hts gX12_faultNow_X12_behindBlanks rfl rfl rfl (by decide +kernel) ⟨Nat.le_of_ble_eq_true rfl, Nat.le_of_ble_eq_true rfl⟩) (x_preV _ hw hA hG (cM0 hE) rfl) rfl rfl hl.1 rfl (lv_room (Nat.le_of_ble_eq_true rfl)) dX12_faultNow_111 ⟨Nat.le_of_ble_eq_true rfl, Nat.le_of_ble_eq_true rfl⟩) hw hA (fun H locs hw => ?_)
              clear hcl
              refine lv_istore (lv' := [(7, .int r11), (2, .int r7), (6, .int r7), (5, .int r5), (4, .int r3), (0, .ref (E.a 0)), (1, .int a1), (3, .int a3)]) hx hb dX12_faultNow_114 hl (by decide) rfl (fun ls hl => ?_)
              refine lv_aload_n hx hb dX12_faultNow_116 rfl (lv_at hl 5 rfl) ?_
              refine lv_iload hx hb dX12_faultNow_117 (lv_at hl 0 rfl) ?_
              obtain ⟨r13, σ14, hcl, hf⟩ := xc2_f hf
              refine x_calli (va_runV (As := [.int r11]) (rest := []) ⟨hx, hb, hml, hown, hts⟩ (mX12_at hE r11 σ12 r13 σ14 hcl H.size) (cwV 1 hts gX12_faultNow_X12_at rfl rfl rfl (by decide +kernel) ⟨Nat.le_of_ble_eq_true rfl, Nat.le_of_ble_eq_true rfl⟩) (x_preV _ hw hA hG (cM0 hE) rfl) rfl rfl hl.1 rfl (lv_room (Nat.le_of_ble_eq_true rfl)) dX12_faultNow_119 ⟨Nat.le_of_ble_eq_true rfl, Nat.le_of_ble_eq_true rfl⟩) hw hA (fun H locs hw => ?_)
              clear hcl
              refine lv_bipush (v := 58) hx hb dX12_faultNow_122 (by decide) ?_
              refine lv_icmp_eq (tgt := 130) hx hb dX12_faultNow_124 (by decide) (fun c124 => ?_) (fun c124 => ?_)
              · replace hf := xif_pos c124 hf
                refine lv_aload_n hx hb dX12_faultNow_130 rfl (lv_at hl 5 rfl) ?_
                refine lv_iload hx hb dX12_faultNow_131 (lv_at hl 0 rfl) ?_
                refine lv_iconst (v := 1) hx hb dX12_faultNow_133 (by decide) ?_
                refine lv_iadd hx hb dX12_faultNow_134 ?_
                obtain ⟨r15, σ16, hcl, hf⟩ := xc2_f hf
                refine x_calli (va_runV (As := [.int (r11 + 1)]) (rest := []) ⟨hx, hb, hml, hown, hts⟩ (mX12_behindBlanks hE (r11 + 1) σ14 r15 σ16 hcl H.size) (cwV 1 hts gX12_faultNow_X12_behindBlanks rfl rfl rfl (by decide +kernel) ⟨Nat.le_of_ble_eq_true rfl, Nat.le_of_ble_eq_true rfl⟩) (x_preV _ hw hA hG (cM0 hE) rfl) rfl rfl hl.1 rfl (lv_room (Nat.le_of_ble_eq_true rfl)) dX12_faultNow_135 ⟨Nat.le_of_ble_eq_true rfl, Nat.le_of_ble_eq_true rfl⟩) hw hA (fun H locs hw => ?_)
                clear hcl
                refine lv_istore (lv' := [(4, .int r15), (7, .int r11), (2, .int r7), (6, .int r7), (5, .int r5), (0, .ref (E.a 0)), (1, .int a1), (3, .int a3)]) hx hb dX12_faultNow_138 hl (by decide) rfl (fun ls hl => ?_)
                refine lv_aload_n hx hb dX12_faultNow_140 rfl (lv_at hl 5 rfl) ?_
                refine lv_iload hx hb dX12_faultNow_141 (lv_at hl 0 rfl) ?_
                obtain ⟨r17, σ18, hcl, hf⟩ := xc2_f hf
                refine x_calli (va_runV (As := [.int r15]) (rest := []) ⟨hx, hb, hml, hown, hts⟩ (mX12_behindDigits hE r15 σ16 r17 σ18 hcl H.size) (cwV 1 hts gX12_faultNow_X12_behindDigits rfl rfl rfl (by decide +kernel) ⟨Nat.le_of_ble_eq_true rfl, Nat.le_of_ble_eq_true rfl⟩) (x_preV _ hw hA hG (cM0 hE) rfl) rfl rfl hl.1 rfl (lv_room (Nat.le_of_ble_eq_true rfl)) dX12_faultNow_143 ⟨Nat.le_of_ble_eq_true rfl, Nat.le_of_ble_eq_true rfl⟩) hw hA (fun H locs hw => ?_)
                clear hcl
                refine lv_istore (lv' := [(5, .int r17), (4, .int r15), (7, .int r11), (2, .int r7), (6, .int r7), (0, .ref (E.a 0)), (1, .int a1), (3, .int a3)]) hx hb dX12_faultNow_146 hl (by decide) rfl (fun ls hl => ?_)
                refine lv_iload hx hb dX12_faultNow_148 (lv_at hl 0 rfl) ?_
                refine lv_iload hx hb dX12_faultNow_150 (lv_at hl 1 rfl) ?_
                refine lv_icmp_eq (tgt := 164) hx hb dX12_faultNow_152 (by decide) (fun c152 => ?_) (fun c152 => ?_)
                · replace hf := xif_pos c152 hf
                  exact h164 r15 r17 σ18 _ _ _ hw (lv_sub hl [1, 0] rfl) hf
                · replace hf := xif_neg c152 hf
                  refine lv_iload hx hb dX12_faultNow_155 (lv_at hl 0 rfl) ?_
                  refine lv_iload hx hb dX12_faultNow_157 (lv_at hl 1 rfl) ?_
                  refine lv_isub hx hb dX12_faultNow_159 ?_
                  refine lv_iconst (v := 5) hx hb dX12_faultNow_160 (by decide) ?_
                  refine lv_icmp_ne (tgt := 181) hx hb dX12_faultNow_161 (by decide) (fun c161 => ?_) (fun c161 => ?_)
                  · replace hf := xif_neg c161 hf
                    refine lv_aload_n hx hb dX12_faultNow_181 rfl (lv_at hl 5 rfl) ?_
                    refine x_getr hx hb hw (cM0 hE) (own := RX12) (ref := RX12) (C := RX12) (T := TX12) (N := 20) hts hiX12 hown rfl 7 (by decide) hk19 (fun _ h9 => h9) rfl dX12_faultNow_182 ?_
                    refine lv_iload hx hb dX12_faultNow_185 (lv_at hl 4 rfl) ?_
                    refine lv_aload_n hx hb dX12_faultNow_187 rfl (lv_at hl 5 rfl) ?_
                    refine lv_iload hx hb dX12_faultNow_188 (lv_at hl 1 rfl) ?_
                    refine lv_iload hx hb dX12_faultNow_190 (lv_at hl 0 rfl) ?_
                    obtain ⟨r19, σ20, hcl, hf⟩ := xc2_f hf
                    refine x_calli (va_runV (As := [.int r15, .int r17]) (rest := [.int r7, .ref (E.a 4)]) ⟨hx, hb, hml, hown, hts⟩ (mX12_number hE r15 r17 σ18 r19 σ20 hcl H.size) (cwV 2 hts gX12_faultNow_X12_number rfl rfl rfl (by decide +kernel) ⟨Nat.le_of_ble_eq_true rfl, Nat.le_of_ble_eq_true rfl⟩) (x_preV _ hw hA hG (cM0 hE) rfl) rfl rfl hl.1 rfl (lv_room (Nat.le_of_ble_eq_true rfl)) dX12_faultNow_192 ⟨Nat.le_of_ble_eq_true rfl, Nat.le_of_ble_eq_true rfl⟩) hw hA (fun H locs hw => ?_)
                    clear hcl
                    obtain ⟨hin, hf⟩ := xs_f hf
                    refine x_iast hx hb hw (cM4 hE) hin dX12_faultNow_195 (fun σ21 H locs ex hw => ?_)
                    replace hf := hf σ21 ex
                    clear ex hin
                    refine lv_aload_n hx hb dX12_faultNow_196 rfl (lv_at hl 5 rfl) ?_
                    refine lv_iload hx hb dX12_faultNow_197 (lv_at hl 0 rfl) ?_
                    obtain ⟨r22, σ23, hcl, hf⟩ := xc2_f hf
                    refine x_calli (va_runV (As := [.int r17]) (rest := []) ⟨hx, hb, hml, hown, hts⟩ (mX12_behindBlanks hE r17 σ21 r22 σ23 hcl H.size) (cwV 1 hts gX12_faultNow_X12_behindBlanks rfl rfl rfl (by decide +kernel) ⟨Nat.le_of_ble_eq_true rfl, Nat.le_of_ble_eq_true rfl⟩) (x_preV _ hw hA hG (cM0 hE) rfl) rfl rfl hl.1 rfl (lv_room (Nat.le_of_ble_eq_true rfl)) dX12_faultNow_199 ⟨Nat.le_of_ble_eq_true rfl, Nat.le_of_ble_eq_true rfl⟩) hw hA (fun H locs hw => ?_)
                    clear hcl
                    refine lv_istore_n (lv' := [(1, .int r22), (5, .int r17), (4, .int r15), (7, .int r11), (2, .int r7), (6, .int r7), (0, .ref (E.a 0)), (3, .int a3)]) hx hb dX12_faultNow_202 rfl hl (by decide) rfl (fun ls hl => ?_)
                    refine lv_aload_n hx hb dX12_faultNow_203 rfl (lv_at hl 6 rfl) ?_
                    refine lv_iload_n hx hb dX12_faultNow_204 rfl (lv_at hl 0 rfl) ?_
                    obtain ⟨r24, σ25, hcl, hf⟩ := xc2_f hf
                    refine x_calli (va_runV (As := [.int r22]) (rest := []) ⟨hx, hb, hml, hown, hts⟩ (mX12_at hE r22 σ23 r24 σ25 hcl H.size) (cwV 1 hts gX12_faultNow_X12_at rfl rfl rfl (by decide +kernel) ⟨Nat.le_of_ble_eq_true rfl, Nat.le_of_ble_eq_true rfl⟩) (x_preV _ hw hA hG (cM0 hE) rfl) rfl rfl hl.1 rfl (lv_room (Nat.le_of_ble_eq_true rfl)) dX12_faultNow_205 ⟨Nat.le_of_ble_eq_true rfl, Nat.le_of_ble_eq_true rfl⟩) hw hA (fun H locs hw => ?_)
                    clear hcl
                    refine lv_bipush (v := 44) hx hb dX12_faultNow_208 (by decide) ?_
                    refine lv_icmp_ne (tgt := 217) hx hb dX12_faultNow_210 (by decide) (fun c210 => ?_) (fun c210 => ?_)
                    · replace hf := xif_neg c210 hf
                      refine lv_iconst (v := 0) hx hb dX12_faultNow_217 (by decide) ?_
                      exact h218 r22 r7 0 σ25 _ _ _ hw (lv_sub hl [6, 0, 4] rfl) hf
                    · replace hf := xif_pos c210 hf
                      refine lv_iconst (v := 1) hx hb dX12_faultNow_213 (by decide) ?_
                      refine lv_goto (tgt := 218) hx hb dX12_faultNow_214 (by decide) ?_
                      exact h218 r22 r7 1 σ25 _ _ _ hw (lv_sub hl [6, 0, 4] rfl) hf
                  · replace hf := xif_pos c161 hf
                    exact h164 r15 r17 σ18 _ _ _ hw (lv_sub hl [1, 0] rfl) hf
              · replace hf := xif_neg c124 hf
                refine lv_iload hx hb dX12_faultNow_127 (lv_at hl 0 rfl) ?_
                exact x_iret hx hb hr hlk hw hf dX12_faultNow_129
            · replace hf := xif_pos c99 hf
              refine lv_iload hx hb dX12_faultNow_102 (lv_at hl 2 rfl) ?_
              exact x_iret hx hb hr hlk hw hf dX12_faultNow_104
          · replace hf := xif_pos c59 hf
            exact h62 r3 r5 σ6 _ _ _ hw (lv_sub hl [1, 0] rfl) hf
  have h2 : ∀ (n : Nat) (a1 : Int32) (σ : xSt) (H : Heap) (locs : List Loc) (ls : Array Slot), xw E A s.heap s σ H locs → lv_has ls 8 [(0, .ref (E.a 0)), (1, .int a1)] → fX12_faultNow_c2 n a1 σ = some (o1, o2) → W p l e rmX12_faultNow s m args below meth c H locs 0 0 (MQ below (xQi E A o1 o2) args s 0 0 A) (F0 m 2 ls []) := by
    intro n2
    induction n2 with
    | zero => intro a1 σ H locs ls hw hl hf; exact nomatch hf
    | succ n2 ih2 =>
      intro a1 σ H locs ls hw hl hf
      rw [fX12_faultNow_c2_s] at hf
      refine lv_iload_n hx hb dX12_faultNow_2 rfl (lv_at hl 1 rfl) ?_
      refine lv_bipush (v := 8) hx hb dX12_faultNow_3 (by decide) ?_
      refine lv_icmp_ge (tgt := 21) hx hb dX12_faultNow_5 (by decide) (fun c5 => ?_) (fun c5 => ?_)
      · replace hf := xif_pos c5 hf
        refine lv_iconst (v := 0) hx hb dX12_faultNow_21 (by decide) ?_
        refine lv_istore_n (lv' := [(1, .int 0), (0, .ref (E.a 0))]) hx hb dX12_faultNow_22 rfl hl (by decide) rfl (fun ls hl => ?_)
        refine lv_iconst (v := (-1)) hx hb dX12_faultNow_23 (by decide) ?_
        refine lv_istore_n (lv' := [(2, .int (-1)), (1, .int 0), (0, .ref (E.a 0))]) hx hb dX12_faultNow_24 rfl hl (by decide) rfl (fun ls hl => ?_)
        refine lv_iconst (v := 1) hx hb dX12_faultNow_25 (by decide) ?_
        refine lv_istore_n (lv' := [(3, .int 1), (2, .int (-1)), (1, .int 0), (0, .ref (E.a 0))]) hx hb dX12_faultNow_26 rfl hl (by decide) rfl (fun ls hl => ?_)
        exact h27 xFU 0 (-1) 1 σ _ _ _ hw (lv_sub hl [3, 2, 1, 0] rfl) hf
      · replace hf := xif_neg c5 hf
        refine lv_aload_n hx hb dX12_faultNow_8 rfl (lv_at hl 0 rfl) ?_
        refine x_getr hx hb hw (cM0 hE) (own := RX12) (ref := RX12) (C := RX12) (T := TX12) (N := 20) hts hiX12 hown rfl 7 (by decide) hk19 (fun _ h9 => h9) rfl dX12_faultNow_9 ?_
        refine lv_iload_n hx hb dX12_faultNow_12 rfl (lv_at hl 1 rfl) ?_
        refine lv_iconst (v := 0) hx hb dX12_faultNow_13 (by decide) ?_
        obtain ⟨hin, hf⟩ := xs_f hf
        refine x_iast hx hb hw (cM4 hE) hin dX12_faultNow_14 (fun σ1 H locs ex hw => ?_)
        replace hf := hf σ1 ex
        clear ex hin
        obtain ⟨v2, ex⟩ : ∃ y : Int32, y = (a1 + 1) := ⟨_, rfl⟩
        replace hf := xl_f hf v2 ex
        refine lv_iinc (v := v2) (lv' := [(1, .int v2), (0, .ref (E.a 0))]) hx hb dX12_faultNow_15 hl (k := 1) rfl (by rw [ex]; rfl) (by decide) rfl (fun ls hl => ?_)
        clear ex
        refine lv_goto (tgt := 2) hx hb dX12_faultNow_18 (by decide) ?_
        exact ih2 v2 σ1 _ _ _ hw (lv_sub hl [1, 0] rfl) hf
  refine lv_iconst (v := 0) hx hb dX12_faultNow_0 (by decide) ?_
  refine lv_istore_n (lv' := [(1, .int 0), (0, .ref (E.a 0))]) hx hb dX12_faultNow_1 rfl hl (by decide) rfl (fun ls hl => ?_)
  exact h2 xFU 0 σ _ _ _ hw (lv_sub hl [1, 0] rfl) hf

def fX12_fault (σ : xSt) : Option (Int32 × xSt) := (xp σ 0 0 0 fun σ1 => (xc2 (fX12_faultNow σ1) fun r2 σ3 => some (r2, σ3)))
abbrev rmX12_fault : Room := { frames := 3, cells := 0, slots := 0, locals := 71 }
set_option maxRecDepth 100000 in
set_option maxHeartbeats 4000000 in
theorem mX12_fault {l : Launch} {E : xE} (hE : E.sh = shM) (σ : xSt) (o1 : Int32) (o2 : xSt) (hf : fX12_fault σ = some (o1, o2)) : xMi l yX12_fault wsX12_fault rmX12_fault E [.ref (E.a 0)] σ o1 o2 := by
  unfold fX12_fault at hf
  refine xMi_of (cc := cX12_fault) (maxL := 1) (ret := (some .int)) (by decide) rfl (Nat.le_of_ble_eq_true rfl) ?_
  intro p e s m args below meth c A ls ⟨hx, hb, hr, hml, hown, hts, hlk⟩ hA hG hw hl
  have hown : s.vm.findClass RX12 = some m.cls := hown
  have hl : lv_has ls 1 [(0, .ref (E.a 0))] := hl
  have hk46 := hts (.fieldLink RX12 46 "OvenRoundModel" "raised" "I") (by decide +kernel)
  have hiX12 : ∀ w ∈ wsX120, w ∈ wsX12_fault := by decide +kernel
  refine lv_aload_n hx hb dX12_fault_0 rfl (lv_at hl 0 rfl) ?_
  refine lv_iconst (v := 0) hx hb dX12_fault_1 (by decide) ?_
  refine x_puti hx hb hw (cM0 hE) (own := RX12) (ref := RX12) (C := RX12) (T := TX12) (N := 20) hts hiX12 tyX12 tyX12_ok nmX12 hown rfl 0 (by decide) hk46 (fun _ h9 => h9) rfl (by decide +kernel) rfl dX12_fault_2 (fun σ1 H locs ex hw => ?_)
  replace hf := xp_f hf σ1 ex
  clear ex
  refine lv_aload_n hx hb dX12_fault_5 rfl (lv_at hl 0 rfl) ?_
  obtain ⟨r2, σ3, hcl, hf⟩ := xc2_f hf
  refine x_calli (va_runV (As := []) (rest := []) ⟨hx, hb, hml, hown, hts⟩ (mX12_faultNow hE σ1 r2 σ3 hcl H.size) (cwV 0 hts gX12_fault_X12_faultNow rfl rfl rfl (by decide +kernel) ⟨Nat.le_of_ble_eq_true rfl, Nat.le_of_ble_eq_true rfl⟩) (x_preV _ hw hA hG (cM0 hE) rfl) rfl rfl hl.1 rfl (lv_room (Nat.le_of_ble_eq_true rfl)) dX12_fault_6 ⟨Nat.le_of_ble_eq_true rfl, Nat.le_of_ble_eq_true rfl⟩) hw hA (fun H locs hw => ?_)
  clear hcl
  exact x_iret hx hb hr hlk hw hf dX12_fault_9
