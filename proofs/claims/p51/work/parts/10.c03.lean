def fX3_costOf_c4 (q0 : Nat) : Nat → Int32 → Int32 → xSt → Option (Int32 × xSt)
  | 0 => fun _ _ _ => none
  | n + 1 => fun a2 a3 σ => (if 4 ≤ a3 then some (a2, σ) else (xr σ q0 4 a3 fun v1 => (xr σ 31 4 a3 fun v2 => (xl (a2 + (v1 * v2)) fun v3 => (xl (a3 + 1) fun v4 => fX3_costOf_c4 q0 n v3 v4 σ)))))
theorem fX3_costOf_c4_s (q0 : Nat) (n : Nat) (a2 : Int32) (a3 : Int32) (σ : xSt) : fX3_costOf_c4 q0 (n + 1) a2 a3 σ = ((if 4 ≤ a3 then some (a2, σ) else (xr σ q0 4 a3 fun v1 => (xr σ 31 4 a3 fun v2 => (xl (a2 + (v1 * v2)) fun v3 => (xl (a3 + 1) fun v4 => fX3_costOf_c4 q0 n v3 v4 σ))))) : Option (Int32 × xSt)) := rfl
def fX3_costOf (q0 : Nat) (σ : xSt) : Option (Int32 × xSt) := fX3_costOf_c4 q0 xFU 0 0 σ
abbrev rmX3_costOf : Room := { frames := 0, cells := 0, slots := 0, locals := 0 }
set_option maxRecDepth 100000 in
set_option maxHeartbeats 4000000 in
theorem mX3_costOf {l : Launch} {E : xE} (hE : E.sh = shX) (q0 : Nat) (hq_q0 : E.sh[q0]? = some (.inl 4)) (σ : xSt) (o1 : Int32) (o2 : xSt) (hf : fX3_costOf q0 σ = some (o1, o2)) : xMi l yX3_costOf wsX3_costOf rmX3_costOf E [.ref (E.a 29), .ref (E.a q0)] σ o1 o2 := by
  unfold fX3_costOf at hf
  refine xMi_of (cc := cX3_costOf) (maxL := 4) (ret := (some .int)) (by decide) rfl (Nat.le_of_ble_eq_true rfl) ?_
  intro p e s m args below meth c A ls ⟨hx, hb, hr, hml, hown, hts, hlk⟩ hA hG hw hl
  have hown : s.vm.findClass RX3 = some m.cls := hown
  have hl : lv_has ls 4 [(0, .ref (E.a 29)), (1, .ref (E.a q0))] := hl
  have hk15 := hts (.fieldLink RX3 15 "OvenRound$Flours" "cost" "[I") (by decide +kernel)
  have hiX3 : ∀ w ∈ wsX30, w ∈ wsX3_costOf := by decide +kernel
  have h4 : ∀ (n : Nat) (a2 : Int32) (a3 : Int32) (σ : xSt) (H : Heap) (locs : List Loc) (ls : Array Slot), xw E A s.heap s σ H locs → lv_has ls 4 [(0, .ref (E.a 29)), (1, .ref (E.a q0)), (2, .int a2), (3, .int a3)] → fX3_costOf_c4 q0 n a2 a3 σ = some (o1, o2) → W p l e rmX3_costOf s m args below meth c H locs 0 0 (MQ below (xQi E A o1 o2) args s 0 0 A) (F0 m 4 ls []) := by
    intro n4
    induction n4 with
    | zero => intro a2 a3 σ H locs ls hw hl hf; exact nomatch hf
    | succ n4 ih4 =>
      intro a2 a3 σ H locs ls hw hl hf
      rw [fX3_costOf_c4_s] at hf
      refine lv_iload_n hx hb dX3_costOf_4 rfl (lv_at hl 3 rfl) ?_
      refine lv_iconst (v := 4) hx hb dX3_costOf_5 (by decide) ?_
      refine lv_icmp_ge (tgt := 28) hx hb dX3_costOf_6 (by decide) (fun c6 => ?_) (fun c6 => ?_)
      · replace hf := xif_pos c6 hf
        refine lv_iload_n hx hb dX3_costOf_28 rfl (lv_at hl 2 rfl) ?_
        exact x_iret hx hb hr hlk hw hf dX3_costOf_29
      · replace hf := xif_neg c6 hf
        refine lv_iload_n hx hb dX3_costOf_9 rfl (lv_at hl 2 rfl) ?_
        refine lv_aload_n hx hb dX3_costOf_10 rfl (lv_at hl 1 rfl) ?_
        refine lv_iload_n hx hb dX3_costOf_11 rfl (lv_at hl 3 rfl) ?_
        obtain ⟨hin, hf⟩ := xr_f hf
        refine x_iald hx hb hw hq_q0 hin dX3_costOf_12 ?_
        refine lv_topi (fun v1 ex => ?_)
        replace hf := hf v1 ex
        clear ex hin
        refine lv_aload_n hx hb dX3_costOf_13 rfl (lv_at hl 0 rfl) ?_
        refine x_getr hx hb hw (cX29 hE) (own := RX3) (ref := RX3) (C := RX3) (T := TX3) (N := 7) hts hiX3 hown rfl 1 (by decide) hk15 (fun _ h9 => h9) rfl dX3_costOf_14 ?_
        refine lv_iload_n hx hb dX3_costOf_17 rfl (lv_at hl 3 rfl) ?_
        obtain ⟨hin, hf⟩ := xr_f hf
        refine x_iald hx hb hw (cX31 hE) hin dX3_costOf_18 ?_
        refine lv_topi (fun v2 ex => ?_)
        replace hf := hf v2 ex
        clear ex hin
        refine lv_imul hx hb dX3_costOf_19 ?_
        refine lv_iadd hx hb dX3_costOf_20 ?_
        refine lv_topi (fun v3 ex => ?_)
        replace hf := xl_f hf v3 ex
        clear ex
        refine lv_istore_n (lv' := [(2, .int v3), (0, .ref (E.a 29)), (1, .ref (E.a q0)), (3, .int a3)]) hx hb dX3_costOf_21 rfl hl (by decide) rfl (fun ls hl => ?_)
        obtain ⟨v4, ex⟩ : ∃ y : Int32, y = (a3 + 1) := ⟨_, rfl⟩
        replace hf := xl_f hf v4 ex
        refine lv_iinc (v := v4) (lv' := [(3, .int v4), (2, .int v3), (0, .ref (E.a 29)), (1, .ref (E.a q0))]) hx hb dX3_costOf_22 hl (k := 3) rfl (by rw [ex]; rfl) (by decide) rfl (fun ls hl => ?_)
        clear ex
        refine lv_goto (tgt := 4) hx hb dX3_costOf_25 (by decide) ?_
        exact ih4 v3 v4 σ _ _ _ hw (lv_sub hl [2, 3, 1, 0] rfl) hf
  refine lv_iconst (v := 0) hx hb dX3_costOf_0 (by decide) ?_
  refine lv_istore_n (lv' := [(2, .int 0), (0, .ref (E.a 29)), (1, .ref (E.a q0))]) hx hb dX3_costOf_1 rfl hl (by decide) rfl (fun ls hl => ?_)
  refine lv_iconst (v := 0) hx hb dX3_costOf_2 (by decide) ?_
  refine lv_istore_n (lv' := [(3, .int 0), (2, .int 0), (0, .ref (E.a 29)), (1, .ref (E.a q0))]) hx hb dX3_costOf_3 rfl hl (by decide) rfl (fun ls hl => ?_)
  exact h4 xFU 0 0 σ _ _ _ hw (lv_sub hl [2, 3, 1, 0] rfl) hf

def fJ13_compare_74951 (p0 : Int64) (p1 : Int64) (σ : xSt) : Option (Int32 × xSt) := (if 0 ≤ (lg_cmp p0 p1) then (if (lg_cmp p0 p1) = 0 then some (0, σ) else some (1, σ)) else some ((-1), σ))
abbrev rmJ13_compare_74951 : Room := { frames := 0, cells := 0, slots := 0, locals := 0 }
set_option maxRecDepth 100000 in
set_option maxHeartbeats 4000000 in
theorem mJ13_compare_74951 {l : Launch} {E : xE} (p0 : Int64) (p1 : Int64) (σ : xSt) (o1 : Int32) (o2 : xSt) (hf : fJ13_compare_74951 p0 p1 σ = some (o1, o2)) : xMi l yJ13_compare_74951 wsJ13_compare_74951 rmJ13_compare_74951 E [.long p0, .long p1] σ o1 o2 := by
  unfold fJ13_compare_74951 at hf
  refine xMi_of (cc := cJ13_compare_74951) (maxL := 4) (ret := (some .int)) (by decide) rfl (Nat.le_of_ble_eq_true rfl) ?_
  intro p e s m args below meth c A ls ⟨hx, hb, hr, hml, hown, hts, hlk⟩ hA hG hw hl
  have hown : s.vm.findClass RJ13 = some m.cls := hown
  have hl : lv_has ls 4 [(0, .long p0), (2, .long p1)] := hl
  refine lv_lload_n hx hb dJ13_compare_74951_0 rfl (lv_at hl 0 rfl) ?_
  refine lv_lload_n hx hb dJ13_compare_74951_1 rfl (lv_at hl 1 rfl) ?_
  refine W.lcmp hx hb dJ13_compare_74951_2 ?_
  refine lv_if_ge (tgt := 10) hx hb dJ13_compare_74951_3 (by decide) (fun c3 => ?_) (fun c3 => ?_)
  · replace hf := xif_pos c3 hf
    refine lv_lload_n hx hb dJ13_compare_74951_10 rfl (lv_at hl 0 rfl) ?_
    refine lv_lload_n hx hb dJ13_compare_74951_11 rfl (lv_at hl 1 rfl) ?_
    refine W.lcmp hx hb dJ13_compare_74951_12 ?_
    refine lv_if_ne (tgt := 20) hx hb dJ13_compare_74951_13 (by decide) (fun c13 => ?_) (fun c13 => ?_)
    · replace hf := xif_neg c13 hf
      refine lv_iconst (v := 1) hx hb dJ13_compare_74951_20 (by decide) ?_
      exact x_iret hx hb hr hlk hw hf dJ13_compare_74951_21
    · replace hf := xif_pos c13 hf
      refine lv_iconst (v := 0) hx hb dJ13_compare_74951_16 (by decide) ?_
      refine lv_goto (tgt := 21) hx hb dJ13_compare_74951_17 (by decide) ?_
      exact x_iret hx hb hr hlk hw hf dJ13_compare_74951_21
  · replace hf := xif_neg c3 hf
    refine lv_iconst (v := (-1)) hx hb dJ13_compare_74951_6 (by decide) ?_
    refine lv_goto (tgt := 21) hx hb dJ13_compare_74951_7 (by decide) ?_
    exact x_iret hx hb hr hlk hw hf dJ13_compare_74951_21

def fX3_compareToBest (p0 : Int32) (p1 : Int32) (σ : xSt) : Option (Int32 × xSt) := (xc2 (fJ13_compare_74951 ((Int32.toInt64 p0) * (Int32.toInt64 (σ 29 4))) ((Int32.toInt64 p1) * (Int32.toInt64 (σ 29 6))) σ) fun r1 σ2 => some (r1, σ2))
abbrev rmX3_compareToBest : Room := { frames := 1, cells := 0, slots := 0, locals := 23 }
set_option maxRecDepth 100000 in
set_option maxHeartbeats 4000000 in
theorem mX3_compareToBest {l : Launch} {E : xE} (hE : E.sh = shX) (p0 : Int32) (p1 : Int32) (σ : xSt) (o1 : Int32) (o2 : xSt) (hf : fX3_compareToBest p0 p1 σ = some (o1, o2)) : xMi l yX3_compareToBest wsX3_compareToBest rmX3_compareToBest E [.ref (E.a 29), .int p0, .int p1] σ o1 o2 := by
  unfold fX3_compareToBest at hf
  refine xMi_of (cc := cX3_compareToBest) (maxL := 3) (ret := (some .int)) (by decide) rfl (Nat.le_of_ble_eq_true rfl) ?_
  intro p e s m args below meth c A ls ⟨hx, hb, hr, hml, hown, hts, hlk⟩ hA hG hw hl
  have hown : s.vm.findClass RX3 = some m.cls := hown
  have hl : lv_has ls 3 [(0, .ref (E.a 29)), (1, .int p0), (2, .int p1)] := hl
  have hk27 := hts (.fieldLink RX3 27 "OvenRound$Flours" "bestBottom" "I") (by decide +kernel)
  have hiX3 : ∀ w ∈ wsX30, w ∈ wsX3_compareToBest := by decide +kernel
  have hk49 := hts (.fieldLink RX3 49 "OvenRound$Flours" "bottom" "I") (by decide +kernel)
  refine lv_iload_n hx hb dX3_compareToBest_0 rfl (lv_at hl 1 rfl) ?_
  refine lv_i2l hx hb dX3_compareToBest_1 rfl ?_
  refine lv_aload_n hx hb dX3_compareToBest_2 rfl (lv_at hl 0 rfl) ?_
  refine x_geti hx hb hw (cX29 hE) (own := RX3) (ref := RX3) (C := RX3) (T := TX3) (N := 7) hts hiX3 hown rfl 4 (by decide) hk27 (fun _ h9 => h9) rfl dX3_compareToBest_3 ?_
  refine lv_i2l hx hb dX3_compareToBest_6 rfl ?_
  refine lv_lmul hx hb dX3_compareToBest_7 ?_
  refine lv_iload_n hx hb dX3_compareToBest_8 rfl (lv_at hl 2 rfl) ?_
  refine lv_i2l hx hb dX3_compareToBest_9 rfl ?_
  refine lv_aload_n hx hb dX3_compareToBest_10 rfl (lv_at hl 0 rfl) ?_
  refine x_geti hx hb hw (cX29 hE) (own := RX3) (ref := RX3) (C := RX3) (T := TX3) (N := 7) hts hiX3 hown rfl 6 (by decide) hk49 (fun _ h9 => h9) rfl dX3_compareToBest_11 ?_
  refine lv_i2l hx hb dX3_compareToBest_14 rfl ?_
  refine lv_lmul hx hb dX3_compareToBest_15 ?_
  obtain ⟨r1, σ2, hcl, hf⟩ := xc2_f hf
  refine x_calli (va_runS (As := [.long ((Int32.toInt64 p0) * (Int32.toInt64 (σ 29 4))), .long ((Int32.toInt64 p1) * (Int32.toInt64 (σ 29 6)))]) (rest := []) ⟨hx, hb, hml, hown, hts⟩ (mJ13_compare_74951 ((Int32.toInt64 p0) * (Int32.toInt64 (σ 29 4))) ((Int32.toInt64 p1) * (Int32.toInt64 (σ 29 6))) σ r1 σ2 hcl s.heap.size) (va_cwS 2 hts gX3_compareToBest_J13_compare_74951 rfl rfl rfl (by decide +kernel) ⟨Nat.le_of_ble_eq_true rfl, Nat.le_of_ble_eq_true rfl⟩) (x_preS _ hw hA hG) rfl rfl hl.1 rfl (lv_room (Nat.le_of_ble_eq_true rfl)) dX3_compareToBest_16 ⟨Nat.le_of_ble_eq_true rfl, Nat.le_of_ble_eq_true rfl⟩) hw hA (fun H locs hw => ?_)
  clear hcl
  exact x_iret hx hb hr hlk hw hf dX3_compareToBest_19

def fX3_isBetter_c55 (a1 : Int32) (σ : xSt) : Option (Int32 × xSt) := (if 0 ≤ a1 then some (0, σ) else some (1, σ))
def fX3_isBetter_c23 : Nat → Int32 → Int32 → xSt → Option (Int32 × xSt)
  | 0 => fun _ _ _ => none
  | n + 1 => fun a1 a2 σ => (if 4 ≤ a2 then fX3_isBetter_c55 a1 σ else (if a1 = 0 then (xr σ 34 4 a2 fun v7 => (xr σ 33 4 a2 fun v8 => (xc2 (fX3_compareToBest v7 v8 σ) fun r9 σ10 => (xl (a2 + 1) fun v11 => fX3_isBetter_c23 n r9 v11 σ10)))) else fX3_isBetter_c55 a1 σ))
theorem fX3_isBetter_c23_s (n : Nat) (a1 : Int32) (a2 : Int32) (σ : xSt) : fX3_isBetter_c23 (n + 1) a1 a2 σ = ((if 4 ≤ a2 then fX3_isBetter_c55 a1 σ else (if a1 = 0 then (xr σ 34 4 a2 fun v7 => (xr σ 33 4 a2 fun v8 => (xc2 (fX3_compareToBest v7 v8 σ) fun r9 σ10 => (xl (a2 + 1) fun v11 => fX3_isBetter_c23 n r9 v11 σ10)))) else fX3_isBetter_c55 a1 σ)) : Option (Int32 × xSt)) := rfl
def fX3_isBetter (σ : xSt) : Option (Int32 × xSt) := (xc2 (fX3_costOf 34 σ) fun r1 σ2 => (xc2 (fX3_costOf 33 σ2) fun r3 σ4 => (xc2 (fX3_compareToBest r1 r3 σ4) fun r5 σ6 => fX3_isBetter_c23 xFU r5 0 σ6)))
abbrev rmX3_isBetter : Room := { frames := 2, cells := 0, slots := 0, locals := 45 }
set_option maxRecDepth 100000 in
set_option maxHeartbeats 4000000 in
theorem mX3_isBetter {l : Launch} {E : xE} (hE : E.sh = shX) (σ : xSt) (o1 : Int32) (o2 : xSt) (hf : fX3_isBetter σ = some (o1, o2)) : xMi l yX3_isBetter wsX3_isBetter rmX3_isBetter E [.ref (E.a 29)] σ o1 o2 := by
  unfold fX3_isBetter at hf
  refine xMi_of (cc := cX3_isBetter) (maxL := 3) (ret := (some .boolean)) (by decide) rfl (Nat.le_of_ble_eq_true rfl) ?_
  intro p e s m args below meth c A ls ⟨hx, hb, hr, hml, hown, hts, hlk⟩ hA hG hw hl
  have hown : s.vm.findClass RX3 = some m.cls := hown
  have hl : lv_has ls 3 [(0, .ref (E.a 29))] := hl
  have hk24 := hts (.fieldLink RX3 24 "OvenRound$Flours" "tops" "[I") (by decide +kernel)
  have hiX3 : ∀ w ∈ wsX30, w ∈ wsX3_isBetter := by decide +kernel
  have hk21 := hts (.fieldLink RX3 21 "OvenRound$Flours" "bestTops" "[I") (by decide +kernel)
  have h55 : ∀ (a1 : Int32) (σ : xSt) (H : Heap) (locs : List Loc) (ls : Array Slot), xw E A s.heap s σ H locs → lv_has ls 3 [(1, .int a1)] → fX3_isBetter_c55 a1 σ = some (o1, o2) → W p l e rmX3_isBetter s m args below meth c H locs 0 0 (MQ below (xQi E A o1 o2) args s 0 0 A) (F0 m 55 ls []) := by
    intro a1 σ H locs ls hw hl hf
    unfold fX3_isBetter_c55 at hf
    refine lv_iload_n hx hb dX3_isBetter_55 rfl (lv_at hl 0 rfl) ?_
    refine lv_if_ge (tgt := 63) hx hb dX3_isBetter_56 (by decide) (fun c56 => ?_) (fun c56 => ?_)
    · replace hf := xif_pos c56 hf
      refine lv_iconst (v := 0) hx hb dX3_isBetter_63 (by decide) ?_
      exact x_zretc hx hb hr hlk hw (by decide) hf dX3_isBetter_64
    · replace hf := xif_neg c56 hf
      refine lv_iconst (v := 1) hx hb dX3_isBetter_59 (by decide) ?_
      refine lv_goto (tgt := 64) hx hb dX3_isBetter_60 (by decide) ?_
      exact x_zretc hx hb hr hlk hw (by decide) hf dX3_isBetter_64
  have h23 : ∀ (n : Nat) (a1 : Int32) (a2 : Int32) (σ : xSt) (H : Heap) (locs : List Loc) (ls : Array Slot), xw E A s.heap s σ H locs → lv_has ls 3 [(0, .ref (E.a 29)), (1, .int a1), (2, .int a2)] → fX3_isBetter_c23 n a1 a2 σ = some (o1, o2) → W p l e rmX3_isBetter s m args below meth c H locs 0 0 (MQ below (xQi E A o1 o2) args s 0 0 A) (F0 m 23 ls []) := by
    intro n23
    induction n23 with
    | zero => intro a1 a2 σ H locs ls hw hl hf; exact nomatch hf
    | succ n23 ih23 =>
      intro a1 a2 σ H locs ls hw hl hf
      rw [fX3_isBetter_c23_s] at hf
      refine lv_iload_n hx hb dX3_isBetter_23 rfl (lv_at hl 2 rfl) ?_
      refine lv_iconst (v := 4) hx hb dX3_isBetter_24 (by decide) ?_
      refine lv_icmp_ge (tgt := 55) hx hb dX3_isBetter_25 (by decide) (fun c25 => ?_) (fun c25 => ?_)
      · replace hf := xif_pos c25 hf
        exact h55 a1 σ _ _ _ hw (lv_sub hl [1] rfl) hf
      · replace hf := xif_neg c25 hf
        refine lv_iload_n hx hb dX3_isBetter_28 rfl (lv_at hl 1 rfl) ?_
        refine lv_if_ne (tgt := 55) hx hb dX3_isBetter_29 (by decide) (fun c29 => ?_) (fun c29 => ?_)
        · replace hf := xif_neg c29 hf
          exact h55 a1 σ _ _ _ hw (lv_sub hl [1] rfl) hf
        · replace hf := xif_pos c29 hf
          refine lv_aload_n hx hb dX3_isBetter_32 rfl (lv_at hl 0 rfl) ?_
          refine lv_aload_n hx hb dX3_isBetter_33 rfl (lv_at hl 0 rfl) ?_
          refine x_getr hx hb hw (cX29 hE) (own := RX3) (ref := RX3) (C := RX3) (T := TX3) (N := 7) hts hiX3 hown rfl 5 (by decide) hk24 (fun _ h9 => h9) rfl dX3_isBetter_34 ?_
          refine lv_iload_n hx hb dX3_isBetter_37 rfl (lv_at hl 2 rfl) ?_
          obtain ⟨hin, hf⟩ := xr_f hf
          refine x_iald hx hb hw (cX34 hE) hin dX3_isBetter_38 ?_
          refine lv_topi (fun v7 ex => ?_)
          replace hf := hf v7 ex
          clear ex hin
          refine lv_aload_n hx hb dX3_isBetter_39 rfl (lv_at hl 0 rfl) ?_
          refine x_getr hx hb hw (cX29 hE) (own := RX3) (ref := RX3) (C := RX3) (T := TX3) (N := 7) hts hiX3 hown rfl 3 (by decide) hk21 (fun _ h9 => h9) rfl dX3_isBetter_40 ?_
          refine lv_iload_n hx hb dX3_isBetter_43 rfl (lv_at hl 2 rfl) ?_
          obtain ⟨hin, hf⟩ := xr_f hf
          refine x_iald hx hb hw (cX33 hE) hin dX3_isBetter_44 ?_
          refine lv_topi (fun v8 ex => ?_)
          replace hf := hf v8 ex
          clear ex hin
          obtain ⟨r9, σ10, hcl, hf⟩ := xc2_f hf
          refine x_calli (va_runV (As := [.int v7, .int v8]) (rest := []) ⟨hx, hb, hml, hown, hts⟩ (mX3_compareToBest hE v7 v8 σ r9 σ10 hcl H.size) (cwV 2 hts gX3_isBetter_X3_compareToBest rfl rfl rfl (by decide +kernel) ⟨Nat.le_of_ble_eq_true rfl, Nat.le_of_ble_eq_true rfl⟩) (x_preV _ hw hA hG (cX29 hE) rfl) rfl rfl hl.1 rfl (lv_room (Nat.le_of_ble_eq_true rfl)) dX3_isBetter_45 ⟨Nat.le_of_ble_eq_true rfl, Nat.le_of_ble_eq_true rfl⟩) hw hA (fun H locs hw => ?_)
          clear hcl
          refine lv_istore_n (lv' := [(1, .int r9), (0, .ref (E.a 29)), (2, .int a2)]) hx hb dX3_isBetter_48 rfl hl (by decide) rfl (fun ls hl => ?_)
          obtain ⟨v11, ex⟩ : ∃ y : Int32, y = (a2 + 1) := ⟨_, rfl⟩
          replace hf := xl_f hf v11 ex
          refine lv_iinc (v := v11) (lv' := [(2, .int v11), (1, .int r9), (0, .ref (E.a 29))]) hx hb dX3_isBetter_49 hl (k := 2) rfl (by rw [ex]; rfl) (by decide) rfl (fun ls hl => ?_)
          clear ex
          refine lv_goto (tgt := 23) hx hb dX3_isBetter_52 (by decide) ?_
          exact ih23 r9 v11 σ10 _ _ _ hw (lv_sub hl [2, 1, 0] rfl) hf
  refine lv_aload_n hx hb dX3_isBetter_0 rfl (lv_at hl 0 rfl) ?_
  refine lv_aload_n hx hb dX3_isBetter_1 rfl (lv_at hl 0 rfl) ?_
  refine lv_aload_n hx hb dX3_isBetter_2 rfl (lv_at hl 0 rfl) ?_
  refine x_getr hx hb hw (cX29 hE) (own := RX3) (ref := RX3) (C := RX3) (T := TX3) (N := 7) hts hiX3 hown rfl 5 (by decide) hk24 (fun _ h9 => h9) rfl dX3_isBetter_3 ?_
  obtain ⟨r1, σ2, hcl, hf⟩ := xc2_f hf
  refine x_calli (va_runV (As := [.ref (E.a 34)]) (rest := [.ref (E.a 29)]) ⟨hx, hb, hml, hown, hts⟩ (mX3_costOf hE 34 (cX34 hE) σ r1 σ2 hcl s.heap.size) (cwV 1 hts gX3_isBetter_X3_costOf rfl rfl rfl (by decide +kernel) ⟨Nat.le_of_ble_eq_true rfl, Nat.le_of_ble_eq_true rfl⟩) (x_preV _ hw hA hG (cX29 hE) rfl) rfl rfl hl.1 rfl (lv_room (Nat.le_of_ble_eq_true rfl)) dX3_isBetter_6 ⟨Nat.le_of_ble_eq_true rfl, Nat.le_of_ble_eq_true rfl⟩) hw hA (fun H locs hw => ?_)
  clear hcl
  refine lv_aload_n hx hb dX3_isBetter_9 rfl (lv_at hl 0 rfl) ?_
  refine lv_aload_n hx hb dX3_isBetter_10 rfl (lv_at hl 0 rfl) ?_
  refine x_getr hx hb hw (cX29 hE) (own := RX3) (ref := RX3) (C := RX3) (T := TX3) (N := 7) hts hiX3 hown rfl 3 (by decide) hk21 (fun _ h9 => h9) rfl dX3_isBetter_11 ?_
  obtain ⟨r3, σ4, hcl, hf⟩ := xc2_f hf
  refine x_calli (va_runV (As := [.ref (E.a 33)]) (rest := [.int r1, .ref (E.a 29)]) ⟨hx, hb, hml, hown, hts⟩ (mX3_costOf hE 33 (cX33 hE) σ2 r3 σ4 hcl H.size) (cwV 1 hts gX3_isBetter_X3_costOf rfl rfl rfl (by decide +kernel) ⟨Nat.le_of_ble_eq_true rfl, Nat.le_of_ble_eq_true rfl⟩) (x_preV _ hw hA hG (cX29 hE) rfl) rfl rfl hl.1 rfl (lv_room (Nat.le_of_ble_eq_true rfl)) dX3_isBetter_14 ⟨Nat.le_of_ble_eq_true rfl, Nat.le_of_ble_eq_true rfl⟩) hw hA (fun H locs hw => ?_)
  clear hcl
  obtain ⟨r5, σ6, hcl, hf⟩ := xc2_f hf
  refine x_calli (va_runV (As := [.int r1, .int r3]) (rest := []) ⟨hx, hb, hml, hown, hts⟩ (mX3_compareToBest hE r1 r3 σ4 r5 σ6 hcl H.size) (cwV 2 hts gX3_isBetter_X3_compareToBest rfl rfl rfl (by decide +kernel) ⟨Nat.le_of_ble_eq_true rfl, Nat.le_of_ble_eq_true rfl⟩) (x_preV _ hw hA hG (cX29 hE) rfl) rfl rfl hl.1 rfl (lv_room (Nat.le_of_ble_eq_true rfl)) dX3_isBetter_17 ⟨Nat.le_of_ble_eq_true rfl, Nat.le_of_ble_eq_true rfl⟩) hw hA (fun H locs hw => ?_)
  clear hcl
  refine lv_istore_n (lv' := [(1, .int r5), (0, .ref (E.a 29))]) hx hb dX3_isBetter_20 rfl hl (by decide) rfl (fun ls hl => ?_)
  refine lv_iconst (v := 0) hx hb dX3_isBetter_21 (by decide) ?_
  refine lv_istore_n (lv' := [(2, .int 0), (1, .int r5), (0, .ref (E.a 29))]) hx hb dX3_isBetter_22 rfl hl (by decide) rfl (fun ls hl => ?_)
  exact h23 xFU r5 0 σ6 _ _ _ hw (lv_sub hl [2, 1, 0] rfl) hf

def fX3_keepIfBetter_c23 (σ : xSt) : Option xSt := (xcpy σ 34 4 0 33 4 0 4 fun σ5 => (xp σ5 29 4 (σ5 29 6) fun σ6 => some σ6))
def fX3_keepIfBetter (p0 : Int32) (p1 : Int32) (σ : xSt) : Option xSt := (xc2 (fX3_isMix p0 p1 σ) fun r1 σ2 => (if r1 = 0 then some σ2 else (if (σ2 29 4) = 0 then fX3_keepIfBetter_c23 σ2 else (xc2 (fX3_isBetter σ2) fun r3 σ4 => (if r3 = 0 then some σ4 else fX3_keepIfBetter_c23 σ4)))))
abbrev rmX3_keepIfBetter : Room := { frames := 3, cells := 0, slots := 0, locals := 96 }
set_option maxRecDepth 100000 in
set_option maxHeartbeats 4000000 in
theorem mX3_keepIfBetter {l : Launch} {E : xE} (hE : E.sh = shX) (p0 : Int32) (p1 : Int32) (σ : xSt) (o1 : xSt) (hf : fX3_keepIfBetter p0 p1 σ = some o1) : xMv l yX3_keepIfBetter wsX3_keepIfBetter rmX3_keepIfBetter E [.ref (E.a 29), .int p0, .int p1] σ o1 := by
  unfold fX3_keepIfBetter at hf
  refine xMv_of (cc := cX3_keepIfBetter) (maxL := 3) (ret := none) (by decide) rfl (Nat.le_of_ble_eq_true rfl) ?_
  intro p e s m args below meth c A ls ⟨hx, hb, hr, hml, hown, hts, hlk⟩ hA hG hw hl
  have hown : s.vm.findClass RX3 = some m.cls := hown
  have hl : lv_has ls 3 [(0, .ref (E.a 29)), (1, .int p0), (2, .int p1)] := hl
  have hk27 := hts (.fieldLink RX3 27 "OvenRound$Flours" "bestBottom" "I") (by decide +kernel)
  have hiX3 : ∀ w ∈ wsX30, w ∈ wsX3_keepIfBetter := by decide +kernel
  have hk24 := hts (.fieldLink RX3 24 "OvenRound$Flours" "tops" "[I") (by decide +kernel)
  have hk21 := hts (.fieldLink RX3 21 "OvenRound$Flours" "bestTops" "[I") (by decide +kernel)
  have hk49 := hts (.fieldLink RX3 49 "OvenRound$Flours" "bottom" "I") (by decide +kernel)
  have h23 : ∀ (σ : xSt) (H : Heap) (locs : List Loc) (ls : Array Slot), xw E A s.heap s σ H locs → lv_has ls 3 [(0, .ref (E.a 29))] → fX3_keepIfBetter_c23 σ = some o1 → W p l e rmX3_keepIfBetter s m args below meth c H locs 0 0 (MQ below (xQv E A o1) args s 0 0 A) (F0 m 23 ls []) := by
    intro σ H locs ls hw hl hf
    unfold fX3_keepIfBetter_c23 at hf
    refine lv_aload_n hx hb dX3_keepIfBetter_23 rfl (lv_at hl 0 rfl) ?_
    refine x_getr hx hb hw (cX29 hE) (own := RX3) (ref := RX3) (C := RX3) (T := TX3) (N := 7) hts hiX3 hown rfl 5 (by decide) hk24 (fun _ h9 => h9) rfl dX3_keepIfBetter_24 ?_
    refine lv_iconst (v := 0) hx hb dX3_keepIfBetter_27 (by decide) ?_
    refine lv_aload_n hx hb dX3_keepIfBetter_28 rfl (lv_at hl 0 rfl) ?_
    refine x_getr hx hb hw (cX29 hE) (own := RX3) (ref := RX3) (C := RX3) (T := TX3) (N := 7) hts hiX3 hown rfl 3 (by decide) hk21 (fun _ h9 => h9) rfl dX3_keepIfBetter_29 ?_
    refine lv_iconst (v := 0) hx hb dX3_keepIfBetter_32 (by decide) ?_
    refine lv_iconst (v := 4) hx hb dX3_keepIfBetter_33 (by decide) ?_
    obtain ⟨hin, hf⟩ := xcpy_f hf
    refine x_copy hx hb (hml.trans hl.1.symm) hw hown (hts (.methodLink RX3 59 arraycopyName) (by decide +kernel)) (hts (.native arraycopyName) (by decide +kernel)) (hts (.static arraycopyName) (by decide +kernel)) (hts (.initialized "java/lang/System") (by decide +kernel)) (cX34 hE) (cX33 hE) hin (Nat.le_of_ble_eq_true rfl) (Nat.le_of_ble_eq_true rfl) dX3_keepIfBetter_34 (fun σ5 H locs ex hw => ?_)
    replace hf := hf σ5 ex
    clear ex hin
    refine lv_aload_n hx hb dX3_keepIfBetter_37 rfl (lv_at hl 0 rfl) ?_
    refine lv_aload_n hx hb dX3_keepIfBetter_38 rfl (lv_at hl 0 rfl) ?_
    refine x_geti hx hb hw (cX29 hE) (own := RX3) (ref := RX3) (C := RX3) (T := TX3) (N := 7) hts hiX3 hown rfl 6 (by decide) hk49 (fun _ h9 => h9) rfl dX3_keepIfBetter_39 ?_
    refine x_puti hx hb hw (cX29 hE) (own := RX3) (ref := RX3) (C := RX3) (T := TX3) (N := 7) hts hiX3 tyX3 tyX3_ok nmX3 hown rfl 4 (by decide) hk27 (fun _ h9 => h9) rfl (by decide +kernel) rfl dX3_keepIfBetter_42 (fun σ6 H locs ex hw => ?_)
    replace hf := xp_f hf σ6 ex
    clear ex
    exact x_vret hx hb hr hlk hw hf dX3_keepIfBetter_45
  refine lv_aload_n hx hb dX3_keepIfBetter_0 rfl (lv_at hl 0 rfl) ?_
  refine lv_iload_n hx hb dX3_keepIfBetter_1 rfl (lv_at hl 1 rfl) ?_
  refine lv_iload_n hx hb dX3_keepIfBetter_2 rfl (lv_at hl 2 rfl) ?_
  obtain ⟨r1, σ2, hcl, hf⟩ := xc2_f hf
  refine x_calli (va_runV (As := [.int p0, .int p1]) (rest := []) ⟨hx, hb, hml, hown, hts⟩ (mX3_isMix hE p0 p1 σ r1 σ2 hcl s.heap.size) (cwV 2 hts gX3_keepIfBetter_X3_isMix rfl rfl rfl (by decide +kernel) ⟨Nat.le_of_ble_eq_true rfl, Nat.le_of_ble_eq_true rfl⟩) (x_preV _ hw hA hG (cX29 hE) rfl) rfl rfl hl.1 rfl (lv_room (Nat.le_of_ble_eq_true rfl)) dX3_keepIfBetter_3 ⟨Nat.le_of_ble_eq_true rfl, Nat.le_of_ble_eq_true rfl⟩) hw hA (fun H locs hw => ?_)
  clear hcl
  refine lv_if_eq (tgt := 45) hx hb dX3_keepIfBetter_6 (by decide) (fun c6 => ?_) (fun c6 => ?_)
  · replace hf := xif_pos c6 hf
    exact x_vret hx hb hr hlk hw hf dX3_keepIfBetter_45
  · replace hf := xif_neg c6 hf
    refine lv_aload_n hx hb dX3_keepIfBetter_9 rfl (lv_at hl 0 rfl) ?_
    refine x_geti hx hb hw (cX29 hE) (own := RX3) (ref := RX3) (C := RX3) (T := TX3) (N := 7) hts hiX3 hown rfl 4 (by decide) hk27 (fun _ h9 => h9) rfl dX3_keepIfBetter_10 ?_
    refine lv_if_eq (tgt := 23) hx hb dX3_keepIfBetter_13 (by decide) (fun c13 => ?_) (fun c13 => ?_)
    · replace hf := xif_pos c13 hf
      exact h23  σ2 _ _ _ hw (lv_sub hl [0] rfl) hf
    · replace hf := xif_neg c13 hf
      refine lv_aload_n hx hb dX3_keepIfBetter_16 rfl (lv_at hl 0 rfl) ?_
      obtain ⟨r3, σ4, hcl, hf⟩ := xc2_f hf
      refine x_calli (va_runV (As := []) (rest := []) ⟨hx, hb, hml, hown, hts⟩ (mX3_isBetter hE σ2 r3 σ4 hcl H.size) (cwV 0 hts gX3_keepIfBetter_X3_isBetter rfl rfl rfl (by decide +kernel) ⟨Nat.le_of_ble_eq_true rfl, Nat.le_of_ble_eq_true rfl⟩) (x_preV _ hw hA hG (cX29 hE) rfl) rfl rfl hl.1 rfl (lv_room (Nat.le_of_ble_eq_true rfl)) dX3_keepIfBetter_17 ⟨Nat.le_of_ble_eq_true rfl, Nat.le_of_ble_eq_true rfl⟩) hw hA (fun H locs hw => ?_)
      clear hcl
      refine lv_if_eq (tgt := 45) hx hb dX3_keepIfBetter_20 (by decide) (fun c20 => ?_) (fun c20 => ?_)
      · replace hf := xif_pos c20 hf
        exact x_vret hx hb hr hlk hw hf dX3_keepIfBetter_45
      · replace hf := xif_neg c20 hf
        exact h23  σ4 _ _ _ hw (lv_sub hl [0] rfl) hf

def fX3_tryTwoFree_c55 (k29 : (Int32 → Int32 → Int32 → Int32 → Int32 → Int32 → Int32 → xSt → Option xSt)) (a1 : Int32) (a2 : Int32) (a3 : Int32) (a5 : Int32) (a6 : Int32) (a7 : Int32) (a8 : Int32) (t0 : Int32) (σ : xSt) : Option xSt := (xl (a6 - t0) fun v13 => (xr σ 30 4 a8 fun v14 => (xl (a7 - (t0 * v14)) fun v15 => (xs σ 34 4 a8 (t0 * a5) fun σ16 => (xl (a8 + 1) fun v17 => k29 a1 a2 a3 a5 v13 v15 v17 σ16)))))
def fX3_tryTwoFree_c29 : Nat → Int32 → Int32 → Int32 → Int32 → Int32 → Int32 → Int32 → xSt → Option xSt
  | 0 => fun _ _ _ _ _ _ _ _ => none
  | n + 1 => fun a1 a2 a3 a5 a6 a7 a8 σ => (if 4 ≤ a8 then (xr σ 30 4 a3 fun v5 => (xs σ 34 4 a2 (a7 - (a6 * v5)) fun σ6 => (xr σ6 30 4 a2 fun v7 => (xs σ6 34 4 a3 ((a6 * v7) - a7) fun σ8 => (xp σ8 29 6 (100 * a5) fun σ9 => some σ9))))) else (xc2 (fX3_isIn a1 a8 σ) fun r10 σ11 => (if r10 = 0 then fX3_tryTwoFree_c55 (fX3_tryTwoFree_c29 n) a1 a2 a3 a5 a6 a7 a8 0 σ11 else (xr σ11 32 4 a8 fun v12 => fX3_tryTwoFree_c55 (fX3_tryTwoFree_c29 n) a1 a2 a3 a5 a6 a7 a8 v12 σ11))))
theorem fX3_tryTwoFree_c29_s (n : Nat) (a1 : Int32) (a2 : Int32) (a3 : Int32) (a5 : Int32) (a6 : Int32) (a7 : Int32) (a8 : Int32) (σ : xSt) : fX3_tryTwoFree_c29 (n + 1) a1 a2 a3 a5 a6 a7 a8 σ = ((if 4 ≤ a8 then (xr σ 30 4 a3 fun v5 => (xs σ 34 4 a2 (a7 - (a6 * v5)) fun σ6 => (xr σ6 30 4 a2 fun v7 => (xs σ6 34 4 a3 ((a6 * v7) - a7) fun σ8 => (xp σ8 29 6 (100 * a5) fun σ9 => some σ9))))) else (xc2 (fX3_isIn a1 a8 σ) fun r10 σ11 => (if r10 = 0 then fX3_tryTwoFree_c55 (fX3_tryTwoFree_c29 n) a1 a2 a3 a5 a6 a7 a8 0 σ11 else (xr σ11 32 4 a8 fun v12 => fX3_tryTwoFree_c55 (fX3_tryTwoFree_c29 n) a1 a2 a3 a5 a6 a7 a8 v12 σ11)))) : Option xSt) := rfl
def fX3_tryTwoFree (p0 : Int32) (p1 : Int32) (p2 : Int32) (p3 : Int32) (σ : xSt) : Option xSt := (xr σ 30 4 p1 fun v1 => (xr σ 30 4 p2 fun v2 => (xl (v1 - v2) fun v3 => (xl (100 * p3) fun v4 => fX3_tryTwoFree_c29 xFU p0 p1 p2 v3 100 v4 0 σ))))
abbrev rmX3_tryTwoFree : Room := { frames := 1, cells := 0, slots := 0, locals := 21 }
set_option maxRecDepth 100000 in
set_option maxHeartbeats 4000000 in
theorem mX3_tryTwoFree {l : Launch} {E : xE} (hE : E.sh = shX) (p0 : Int32) (p1 : Int32) (p2 : Int32) (p3 : Int32) (σ : xSt) (o1 : xSt) (hf : fX3_tryTwoFree p0 p1 p2 p3 σ = some o1) : xMv l yX3_tryTwoFree wsX3_tryTwoFree rmX3_tryTwoFree E [.ref (E.a 29), .int p0, .int p1, .int p2, .int p3] σ o1 := by
  unfold fX3_tryTwoFree at hf
  refine xMv_of (cc := cX3_tryTwoFree) (maxL := 10) (ret := none) (by decide) rfl (Nat.le_of_ble_eq_true rfl) ?_
  intro p e s m args below meth c A ls ⟨hx, hb, hr, hml, hown, hts, hlk⟩ hA hG hw hl
  have hown : s.vm.findClass RX3 = some m.cls := hown
  have hl : lv_has ls 10 [(0, .ref (E.a 29)), (1, .int p0), (2, .int p1), (3, .int p2), (4, .int p3)] := hl
  have hk9 := hts (.fieldLink RX3 9 "OvenRound$Flours" "strength" "[I") (by decide +kernel)
  have hiX3 : ∀ w ∈ wsX30, w ∈ wsX3_tryTwoFree := by decide +kernel
  have hk24 := hts (.fieldLink RX3 24 "OvenRound$Flours" "tops" "[I") (by decide +kernel)
  have hk49 := hts (.fieldLink RX3 49 "OvenRound$Flours" "bottom" "I") (by decide +kernel)
  have hk18 := hts (.fieldLink RX3 18 "OvenRound$Flours" "cap" "[I") (by decide +kernel)
  have h29 : ∀ (n : Nat) (a1 : Int32) (a2 : Int32) (a3 : Int32) (a5 : Int32) (a6 : Int32) (a7 : Int32) (a8 : Int32) (σ : xSt) (H : Heap) (locs : List Loc) (ls : Array Slot), xw E A s.heap s σ H locs → lv_has ls 10 [(0, .ref (E.a 29)), (1, .int a1), (2, .int a2), (3, .int a3), (5, .int a5), (6, .int a6), (7, .int a7), (8, .int a8)] → fX3_tryTwoFree_c29 n a1 a2 a3 a5 a6 a7 a8 σ = some o1 → W p l e rmX3_tryTwoFree s m args below meth c H locs 0 0 (MQ below (xQv E A o1) args s 0 0 A) (F0 m 29 ls []) := by
    intro n29
    induction n29 with
    | zero => intro a1 a2 a3 a5 a6 a7 a8 σ H locs ls hw hl hf; exact nomatch hf
    | succ n29 ih29 =>
      have h55 : ∀ (a1 : Int32) (a2 : Int32) (a3 : Int32) (a5 : Int32) (a6 : Int32) (a7 : Int32) (a8 : Int32) (t0 : Int32) (σ : xSt) (H : Heap) (locs : List Loc) (ls : Array Slot), xw E A s.heap s σ H locs → lv_has ls 10 [(0, .ref (E.a 29)), (1, .int a1), (2, .int a2), (3, .int a3), (5, .int a5), (6, .int a6), (7, .int a7), (8, .int a8)] → fX3_tryTwoFree_c55 (fX3_tryTwoFree_c29 n29) a1 a2 a3 a5 a6 a7 a8 t0 σ = some o1 → W p l e rmX3_tryTwoFree s m args below meth c H locs 0 0 (MQ below (xQv E A o1) args s 0 0 A) (F0 m 55 ls [.int t0]) := by
        intro a1 a2 a3 a5 a6 a7 a8 t0 σ H locs ls hw hl hf
        unfold fX3_tryTwoFree_c55 at hf
        refine lv_istore (lv' := [(9, .int t0), (0, .ref (E.a 29)), (1, .int a1), (2, .int a2), (3, .int a3), (5, .int a5), (6, .int a6), (7, .int a7), (8, .int a8)]) hx hb dX3_tryTwoFree_55 hl (by decide) rfl (fun ls hl => ?_)
        refine lv_iload hx hb dX3_tryTwoFree_57 (lv_at hl 6 rfl) ?_
        refine lv_iload hx hb dX3_tryTwoFree_59 (lv_at hl 0 rfl) ?_
        refine lv_isub hx hb dX3_tryTwoFree_61 ?_
        refine lv_topi (fun v13 ex => ?_)
        replace hf := xl_f hf v13 ex
        clear ex
        refine lv_istore (lv' := [(6, .int v13), (9, .int t0), (0, .ref (E.a 29)), (1, .int a1), (2, .int a2), (3, .int a3), (5, .int a5), (7, .int a7), (8, .int a8)]) hx hb dX3_tryTwoFree_62 hl (by decide) rfl (fun ls hl => ?_)
        refine lv_iload hx hb dX3_tryTwoFree_64 (lv_at hl 7 rfl) ?_
        refine lv_iload hx hb dX3_tryTwoFree_66 (lv_at hl 1 rfl) ?_
        refine lv_aload_n hx hb dX3_tryTwoFree_68 rfl (lv_at hl 2 rfl) ?_
        refine x_getr hx hb hw (cX29 hE) (own := RX3) (ref := RX3) (C := RX3) (T := TX3) (N := 7) hts hiX3 hown rfl 0 (by decide) hk9 (fun _ h9 => h9) rfl dX3_tryTwoFree_69 ?_
        refine lv_iload hx hb dX3_tryTwoFree_72 (lv_at hl 8 rfl) ?_
        obtain ⟨hin, hf⟩ := xr_f hf
        refine x_iald hx hb hw (cX30 hE) hin dX3_tryTwoFree_74 ?_
        refine lv_topi (fun v14 ex => ?_)
        replace hf := hf v14 ex
        clear ex hin
        refine lv_imul hx hb dX3_tryTwoFree_75 ?_
        refine lv_isub hx hb dX3_tryTwoFree_76 ?_
        refine lv_topi (fun v15 ex => ?_)
        replace hf := xl_f hf v15 ex
        clear ex
        refine lv_istore (lv' := [(7, .int v15), (6, .int v13), (9, .int t0), (0, .ref (E.a 29)), (1, .int a1), (2, .int a2), (3, .int a3), (5, .int a5), (8, .int a8)]) hx hb dX3_tryTwoFree_77 hl (by decide) rfl (fun ls hl => ?_)
        refine lv_aload_n hx hb dX3_tryTwoFree_79 rfl (lv_at hl 3 rfl) ?_
        refine x_getr hx hb hw (cX29 hE) (own := RX3) (ref := RX3) (C := RX3) (T := TX3) (N := 7) hts hiX3 hown rfl 5 (by decide) hk24 (fun _ h9 => h9) rfl dX3_tryTwoFree_80 ?_
        refine lv_iload hx hb dX3_tryTwoFree_83 (lv_at hl 8 rfl) ?_
        refine lv_iload hx hb dX3_tryTwoFree_85 (lv_at hl 2 rfl) ?_
        refine lv_iload hx hb dX3_tryTwoFree_87 (lv_at hl 7 rfl) ?_
        refine lv_imul hx hb dX3_tryTwoFree_89 ?_
        obtain ⟨hin, hf⟩ := xs_f hf
        refine x_iast hx hb hw (cX34 hE) hin dX3_tryTwoFree_90 (fun σ16 H locs ex hw => ?_)
        replace hf := hf σ16 ex
        clear ex hin
        obtain ⟨v17, ex⟩ : ∃ y : Int32, y = (a8 + 1) := ⟨_, rfl⟩
        replace hf := xl_f hf v17 ex
        refine lv_iinc (v := v17) (lv' := [(8, .int v17), (7, .int v15), (6, .int v13), (9, .int t0), (0, .ref (E.a 29)), (1, .int a1), (2, .int a2), (3, .int a3), (5, .int a5)]) hx hb dX3_tryTwoFree_91 hl (k := 8) rfl (by rw [ex]; rfl) (by decide) rfl (fun ls hl => ?_)
        clear ex
        refine lv_goto (tgt := 29) hx hb dX3_tryTwoFree_94 (by decide) ?_
        exact ih29 a1 a2 a3 a5 v13 v15 v17 σ16 _ _ _ hw (lv_sub hl [4, 5, 6, 7, 8, 2, 1, 0] rfl) hf
      intro a1 a2 a3 a5 a6 a7 a8 σ H locs ls hw hl hf
      rw [fX3_tryTwoFree_c29_s] at hf
      refine lv_iload hx hb dX3_tryTwoFree_29 (lv_at hl 7 rfl) ?_
      refine lv_iconst (v := 4) hx hb dX3_tryTwoFree_31 (by decide) ?_
      refine lv_icmp_ge (tgt := 97) hx hb dX3_tryTwoFree_32 (by decide) (fun c32 => ?_) (fun c32 => ?_)
      · replace hf := xif_pos c32 hf
        refine lv_aload_n hx hb dX3_tryTwoFree_97 rfl (lv_at hl 0 rfl) ?_
        refine x_getr hx hb hw (cX29 hE) (own := RX3) (ref := RX3) (C := RX3) (T := TX3) (N := 7) hts hiX3 hown rfl 5 (by decide) hk24 (fun _ h9 => h9) rfl dX3_tryTwoFree_98 ?_
        refine lv_iload_n hx hb dX3_tryTwoFree_101 rfl (lv_at hl 2 rfl) ?_
        refine lv_iload hx hb dX3_tryTwoFree_102 (lv_at hl 6 rfl) ?_
        refine lv_iload hx hb dX3_tryTwoFree_104 (lv_at hl 5 rfl) ?_
        refine lv_aload_n hx hb dX3_tryTwoFree_106 rfl (lv_at hl 0 rfl) ?_
        refine x_getr hx hb hw (cX29 hE) (own := RX3) (ref := RX3) (C := RX3) (T := TX3) (N := 7) hts hiX3 hown rfl 0 (by decide) hk9 (fun _ h9 => h9) rfl dX3_tryTwoFree_107 ?_
        refine lv_iload_n hx hb dX3_tryTwoFree_110 rfl (lv_at hl 3 rfl) ?_
        obtain ⟨hin, hf⟩ := xr_f hf
        refine x_iald hx hb hw (cX30 hE) hin dX3_tryTwoFree_111 ?_
        refine lv_topi (fun v5 ex => ?_)
        replace hf := hf v5 ex
        clear ex hin
        refine lv_imul hx hb dX3_tryTwoFree_112 ?_
        refine lv_isub hx hb dX3_tryTwoFree_113 ?_
        obtain ⟨hin, hf⟩ := xs_f hf
        refine x_iast hx hb hw (cX34 hE) hin dX3_tryTwoFree_114 (fun σ6 H locs ex hw => ?_)
        replace hf := hf σ6 ex
        clear ex hin
        refine lv_aload_n hx hb dX3_tryTwoFree_115 rfl (lv_at hl 0 rfl) ?_
        refine x_getr hx hb hw (cX29 hE) (own := RX3) (ref := RX3) (C := RX3) (T := TX3) (N := 7) hts hiX3 hown rfl 5 (by decide) hk24 (fun _ h9 => h9) rfl dX3_tryTwoFree_116 ?_
        refine lv_iload_n hx hb dX3_tryTwoFree_119 rfl (lv_at hl 3 rfl) ?_
        refine lv_iload hx hb dX3_tryTwoFree_120 (lv_at hl 5 rfl) ?_
        refine lv_aload_n hx hb dX3_tryTwoFree_122 rfl (lv_at hl 0 rfl) ?_
        refine x_getr hx hb hw (cX29 hE) (own := RX3) (ref := RX3) (C := RX3) (T := TX3) (N := 7) hts hiX3 hown rfl 0 (by decide) hk9 (fun _ h9 => h9) rfl dX3_tryTwoFree_123 ?_
        refine lv_iload_n hx hb dX3_tryTwoFree_126 rfl (lv_at hl 2 rfl) ?_
        obtain ⟨hin, hf⟩ := xr_f hf
        refine x_iald hx hb hw (cX30 hE) hin dX3_tryTwoFree_127 ?_
        refine lv_topi (fun v7 ex => ?_)
        replace hf := hf v7 ex
        clear ex hin
        refine lv_imul hx hb dX3_tryTwoFree_128 ?_
        refine lv_iload hx hb dX3_tryTwoFree_129 (lv_at hl 6 rfl) ?_
        refine lv_isub hx hb dX3_tryTwoFree_131 ?_
        obtain ⟨hin, hf⟩ := xs_f hf
        refine x_iast hx hb hw (cX34 hE) hin dX3_tryTwoFree_132 (fun σ8 H locs ex hw => ?_)
        replace hf := hf σ8 ex
        clear ex hin
        refine lv_aload_n hx hb dX3_tryTwoFree_133 rfl (lv_at hl 0 rfl) ?_
        refine lv_bipush (v := 100) hx hb dX3_tryTwoFree_134 (by decide) ?_
        refine lv_iload hx hb dX3_tryTwoFree_136 (lv_at hl 4 rfl) ?_
        refine lv_imul hx hb dX3_tryTwoFree_138 ?_
        refine x_puti hx hb hw (cX29 hE) (own := RX3) (ref := RX3) (C := RX3) (T := TX3) (N := 7) hts hiX3 tyX3 tyX3_ok nmX3 hown rfl 6 (by decide) hk49 (fun _ h9 => h9) rfl (by decide +kernel) rfl dX3_tryTwoFree_139 (fun σ9 H locs ex hw => ?_)
        replace hf := xp_f hf σ9 ex
        clear ex
        exact x_vret hx hb hr hlk hw hf dX3_tryTwoFree_142
      · replace hf := xif_neg c32 hf
        refine lv_iload_n hx hb dX3_tryTwoFree_35 rfl (lv_at hl 1 rfl) ?_
        refine lv_iload hx hb dX3_tryTwoFree_36 (lv_at hl 7 rfl) ?_
        obtain ⟨r10, σ11, hcl, hf⟩ := xc2_f hf
        refine x_calli (va_runS (As := [.int a1, .int a8]) (rest := []) ⟨hx, hb, hml, hown, hts⟩ (mX3_isIn hE a1 a8 σ r10 σ11 hcl H.size) (va_cwS 2 hts gX3_tryTwoFree_X3_isIn rfl rfl rfl (by decide +kernel) ⟨Nat.le_of_ble_eq_true rfl, Nat.le_of_ble_eq_true rfl⟩) (x_preS _ hw hA hG) rfl rfl hl.1 rfl (lv_room (Nat.le_of_ble_eq_true rfl)) dX3_tryTwoFree_38 ⟨Nat.le_of_ble_eq_true rfl, Nat.le_of_ble_eq_true rfl⟩) hw hA (fun H locs hw => ?_)
        clear hcl
        refine lv_if_eq (tgt := 54) hx hb dX3_tryTwoFree_41 (by decide) (fun c41 => ?_) (fun c41 => ?_)
        · replace hf := xif_pos c41 hf
          refine lv_iconst (v := 0) hx hb dX3_tryTwoFree_54 (by decide) ?_
          exact h55 a1 a2 a3 a5 a6 a7 a8 0 σ11 _ _ _ hw (lv_sub hl [0, 1, 2, 3, 4, 5, 6, 7] rfl) hf
        · replace hf := xif_neg c41 hf
          refine lv_aload_n hx hb dX3_tryTwoFree_44 rfl (lv_at hl 0 rfl) ?_
          refine x_getr hx hb hw (cX29 hE) (own := RX3) (ref := RX3) (C := RX3) (T := TX3) (N := 7) hts hiX3 hown rfl 2 (by decide) hk18 (fun _ h9 => h9) rfl dX3_tryTwoFree_45 ?_
          refine lv_iload hx hb dX3_tryTwoFree_48 (lv_at hl 7 rfl) ?_
          obtain ⟨hin, hf⟩ := xr_f hf
          refine x_iald hx hb hw (cX32 hE) hin dX3_tryTwoFree_50 ?_
          refine lv_topi (fun v12 ex => ?_)
          replace hf := hf v12 ex
          clear ex hin
          refine lv_goto (tgt := 55) hx hb dX3_tryTwoFree_51 (by decide) ?_
          exact h55 a1 a2 a3 a5 a6 a7 a8 v12 σ11 _ _ _ hw (lv_sub hl [0, 1, 2, 3, 4, 5, 6, 7] rfl) hf
  refine lv_aload_n hx hb dX3_tryTwoFree_0 rfl (lv_at hl 0 rfl) ?_
  refine x_getr hx hb hw (cX29 hE) (own := RX3) (ref := RX3) (C := RX3) (T := TX3) (N := 7) hts hiX3 hown rfl 0 (by decide) hk9 (fun _ h9 => h9) rfl dX3_tryTwoFree_1 ?_
  refine lv_iload_n hx hb dX3_tryTwoFree_4 rfl (lv_at hl 2 rfl) ?_
  obtain ⟨hin, hf⟩ := xr_f hf
  refine x_iald hx hb hw (cX30 hE) hin dX3_tryTwoFree_5 ?_
  refine lv_topi (fun v1 ex => ?_)
  replace hf := hf v1 ex
  clear ex hin
  refine lv_aload_n hx hb dX3_tryTwoFree_6 rfl (lv_at hl 0 rfl) ?_
  refine x_getr hx hb hw (cX29 hE) (own := RX3) (ref := RX3) (C := RX3) (T := TX3) (N := 7) hts hiX3 hown rfl 0 (by decide) hk9 (fun _ h9 => h9) rfl dX3_tryTwoFree_7 ?_
  refine lv_iload_n hx hb dX3_tryTwoFree_10 rfl (lv_at hl 3 rfl) ?_
  obtain ⟨hin, hf⟩ := xr_f hf
  refine x_iald hx hb hw (cX30 hE) hin dX3_tryTwoFree_11 ?_
  refine lv_topi (fun v2 ex => ?_)
  replace hf := hf v2 ex
  clear ex hin
  refine lv_isub hx hb dX3_tryTwoFree_12 ?_
  refine lv_topi (fun v3 ex => ?_)
  replace hf := xl_f hf v3 ex
  clear ex
  refine lv_istore (lv' := [(5, .int v3), (0, .ref (E.a 29)), (1, .int p0), (2, .int p1), (3, .int p2), (4, .int p3)]) hx hb dX3_tryTwoFree_13 hl (by decide) rfl (fun ls hl => ?_)
  refine lv_bipush (v := 100) hx hb dX3_tryTwoFree_15 (by decide) ?_
  refine lv_istore (lv' := [(6, .int 100), (5, .int v3), (0, .ref (E.a 29)), (1, .int p0), (2, .int p1), (3, .int p2), (4, .int p3)]) hx hb dX3_tryTwoFree_17 hl (by decide) rfl (fun ls hl => ?_)
  refine lv_bipush (v := 100) hx hb dX3_tryTwoFree_19 (by decide) ?_
  refine lv_iload hx hb dX3_tryTwoFree_21 (lv_at hl 6 rfl) ?_
  refine lv_imul hx hb dX3_tryTwoFree_23 ?_
  refine lv_topi (fun v4 ex => ?_)
  replace hf := xl_f hf v4 ex
  clear ex
  refine lv_istore (lv' := [(7, .int v4), (6, .int 100), (5, .int v3), (0, .ref (E.a 29)), (1, .int p0), (2, .int p1), (3, .int p2), (4, .int p3)]) hx hb dX3_tryTwoFree_24 hl (by decide) rfl (fun ls hl => ?_)
  refine lv_iconst (v := 0) hx hb dX3_tryTwoFree_26 (by decide) ?_
  refine lv_istore (lv' := [(8, .int 0), (7, .int v4), (6, .int 100), (5, .int v3), (0, .ref (E.a 29)), (1, .int p0), (2, .int p1), (3, .int p2), (4, .int p3)]) hx hb dX3_tryTwoFree_27 hl (by decide) rfl (fun ls hl => ?_)
  exact h29 xFU p0 p1 p2 v3 100 v4 0 σ _ _ _ hw (lv_sub hl [4, 5, 6, 7, 3, 2, 1, 0] rfl) hf

def fX3_tryPairs_c3 : Nat → Int32 → Int32 → Int32 → Int32 → Int32 → xSt → Option xSt
  | 0 => fun _ _ _ _ _ _ => none
  | n + 1 => fun a1 a2 a3 a4 a5 σ => (if 4 ≤ a5 then some σ else (xc2 (fX3_isIn a1 a5 σ) fun r1 σ2 => (if r1 = 0 then (xr σ2 30 4 a2 fun v4 => (xr σ2 30 4 a5 fun v5 => (if v4 ≤ v5 then (xl (a5 + 1) fun v6 => fX3_tryPairs_c3 n a1 a2 a3 a4 v6 σ2) else (xc (fX3_tryTwoFree a1 a2 a5 a3 σ2) fun σ8 => (xc (fX3_keepIfBetter a3 a4 σ8) fun σ10 => (xc (fX3_tryTwoFree a1 a2 a5 a4 σ10) fun σ12 => (xc (fX3_keepIfBetter a3 a4 σ12) fun σ14 => (xl (a5 + 1) fun v15 => fX3_tryPairs_c3 n a1 a2 a3 a4 v15 σ14)))))))) else (xl (a5 + 1) fun v3 => fX3_tryPairs_c3 n a1 a2 a3 a4 v3 σ2))))
theorem fX3_tryPairs_c3_s (n : Nat) (a1 : Int32) (a2 : Int32) (a3 : Int32) (a4 : Int32) (a5 : Int32) (σ : xSt) : fX3_tryPairs_c3 (n + 1) a1 a2 a3 a4 a5 σ = ((if 4 ≤ a5 then some σ else (xc2 (fX3_isIn a1 a5 σ) fun r1 σ2 => (if r1 = 0 then (xr σ2 30 4 a2 fun v4 => (xr σ2 30 4 a5 fun v5 => (if v4 ≤ v5 then (xl (a5 + 1) fun v6 => fX3_tryPairs_c3 n a1 a2 a3 a4 v6 σ2) else (xc (fX3_tryTwoFree a1 a2 a5 a3 σ2) fun σ8 => (xc (fX3_keepIfBetter a3 a4 σ8) fun σ10 => (xc (fX3_tryTwoFree a1 a2 a5 a4 σ10) fun σ12 => (xc (fX3_keepIfBetter a3 a4 σ12) fun σ14 => (xl (a5 + 1) fun v15 => fX3_tryPairs_c3 n a1 a2 a3 a4 v15 σ14)))))))) else (xl (a5 + 1) fun v3 => fX3_tryPairs_c3 n a1 a2 a3 a4 v3 σ2)))) : Option xSt) := rfl
def fX3_tryPairs (p0 : Int32) (p1 : Int32) (p2 : Int32) (p3 : Int32) (σ : xSt) : Option xSt := fX3_tryPairs_c3 xFU p0 p1 p2 p3 0 σ
abbrev rmX3_tryPairs : Room := { frames := 4, cells := 0, slots := 0, locals := 118 }
set_option maxRecDepth 100000 in
set_option maxHeartbeats 4000000 in
theorem mX3_tryPairs {l : Launch} {E : xE} (hE : E.sh = shX) (p0 : Int32) (p1 : Int32) (p2 : Int32) (p3 : Int32) (σ : xSt) (o1 : xSt) (hf : fX3_tryPairs p0 p1 p2 p3 σ = some o1) : xMv l yX3_tryPairs wsX3_tryPairs rmX3_tryPairs E [.ref (E.a 29), .int p0, .int p1, .int p2, .int p3] σ o1 := by
  unfold fX3_tryPairs at hf
  refine xMv_of (cc := cX3_tryPairs) (maxL := 6) (ret := none) (by decide) rfl (Nat.le_of_ble_eq_true rfl) ?_
  intro p e s m args below meth c A ls ⟨hx, hb, hr, hml, hown, hts, hlk⟩ hA hG hw hl
  have hown : s.vm.findClass RX3 = some m.cls := hown
  have hl : lv_has ls 6 [(0, .ref (E.a 29)), (1, .int p0), (2, .int p1), (3, .int p2), (4, .int p3)] := hl
  have hk9 := hts (.fieldLink RX3 9 "OvenRound$Flours" "strength" "[I") (by decide +kernel)
  have hiX3 : ∀ w ∈ wsX30, w ∈ wsX3_tryPairs := by decide +kernel
  have h3 : ∀ (n : Nat) (a1 : Int32) (a2 : Int32) (a3 : Int32) (a4 : Int32) (a5 : Int32) (σ : xSt) (H : Heap) (locs : List Loc) (ls : Array Slot), xw E A s.heap s σ H locs → lv_has ls 6 [(0, .ref (E.a 29)), (1, .int a1), (2, .int a2), (3, .int a3), (4, .int a4), (5, .int a5)] → fX3_tryPairs_c3 n a1 a2 a3 a4 a5 σ = some o1 → W p l e rmX3_tryPairs s m args below meth c H locs 0 0 (MQ below (xQv E A o1) args s 0 0 A) (F0 m 3 ls []) := by
    intro n3
    induction n3 with
    | zero => intro a1 a2 a3 a4 a5 σ H locs ls hw hl hf; exact nomatch hf
    | succ n3 ih3 =>
      intro a1 a2 a3 a4 a5 σ H locs ls hw hl hf
      rw [fX3_tryPairs_c3_s] at hf
      refine lv_iload hx hb dX3_tryPairs_3 (lv_at hl 5 rfl) ?_
      refine lv_iconst (v := 4) hx hb dX3_tryPairs_5 (by decide) ?_
      refine lv_icmp_ge (tgt := 73) hx hb dX3_tryPairs_6 (by decide) (fun c6 => ?_) (fun c6 => ?_)
      · replace hf := xif_pos c6 hf
        exact x_vret hx hb hr hlk hw hf dX3_tryPairs_73
      · replace hf := xif_neg c6 hf
        refine lv_iload_n hx hb dX3_tryPairs_9 rfl (lv_at hl 1 rfl) ?_
        refine lv_iload hx hb dX3_tryPairs_10 (lv_at hl 5 rfl) ?_
        obtain ⟨r1, σ2, hcl, hf⟩ := xc2_f hf
        refine x_calli (va_runS (As := [.int a1, .int a5]) (rest := []) ⟨hx, hb, hml, hown, hts⟩ (mX3_isIn hE a1 a5 σ r1 σ2 hcl H.size) (va_cwS 2 hts gX3_tryPairs_X3_isIn rfl rfl rfl (by decide +kernel) ⟨Nat.le_of_ble_eq_true rfl, Nat.le_of_ble_eq_true rfl⟩) (x_preS _ hw hA hG) rfl rfl hl.1 rfl (lv_room (Nat.le_of_ble_eq_true rfl)) dX3_tryPairs_12 ⟨Nat.le_of_ble_eq_true rfl, Nat.le_of_ble_eq_true rfl⟩) hw hA (fun H locs hw => ?_)
        clear hcl
        refine lv_if_ne (tgt := 67) hx hb dX3_tryPairs_15 (by decide) (fun c15 => ?_) (fun c15 => ?_)
        · replace hf := xif_neg c15 hf
          obtain ⟨v3, ex⟩ : ∃ y : Int32, y = (a5 + 1) := ⟨_, rfl⟩
          replace hf := xl_f hf v3 ex
          refine lv_iinc (v := v3) (lv' := [(5, .int v3), (0, .ref (E.a 29)), (1, .int a1), (2, .int a2), (3, .int a3), (4, .int a4)]) hx hb dX3_tryPairs_67 hl (k := 5) rfl (by rw [ex]; rfl) (by decide) rfl (fun ls hl => ?_)
          clear ex
          refine lv_goto (tgt := 3) hx hb dX3_tryPairs_70 (by decide) ?_
          exact ih3 a1 a2 a3 a4 v3 σ2 _ _ _ hw (lv_sub hl [1, 2, 3, 4, 5, 0] rfl) hf
        · replace hf := xif_pos c15 hf
          refine lv_aload_n hx hb dX3_tryPairs_18 rfl (lv_at hl 0 rfl) ?_
          refine x_getr hx hb hw (cX29 hE) (own := RX3) (ref := RX3) (C := RX3) (T := TX3) (N := 7) hts hiX3 hown rfl 0 (by decide) hk9 (fun _ h9 => h9) rfl dX3_tryPairs_19 ?_
          refine lv_iload_n hx hb dX3_tryPairs_22 rfl (lv_at hl 2 rfl) ?_
          obtain ⟨hin, hf⟩ := xr_f hf
          refine x_iald hx hb hw (cX30 hE) hin dX3_tryPairs_23 ?_
          refine lv_topi (fun v4 ex => ?_)
          replace hf := hf v4 ex
          clear ex hin
          refine lv_aload_n hx hb dX3_tryPairs_24 rfl (lv_at hl 0 rfl) ?_
          refine x_getr hx hb hw (cX29 hE) (own := RX3) (ref := RX3) (C := RX3) (T := TX3) (N := 7) hts hiX3 hown rfl 0 (by decide) hk9 (fun _ h9 => h9) rfl dX3_tryPairs_25 ?_
          refine lv_iload hx hb dX3_tryPairs_28 (lv_at hl 5 rfl) ?_
          obtain ⟨hin, hf⟩ := xr_f hf
          refine x_iald hx hb hw (cX30 hE) hin dX3_tryPairs_30 ?_
          refine lv_topi (fun v5 ex => ?_)
          replace hf := hf v5 ex
          clear ex hin
          refine lv_icmp_le (tgt := 67) hx hb dX3_tryPairs_31 (by decide) (fun c31 => ?_) (fun c31 => ?_)
          · replace hf := xif_pos c31 hf
            obtain ⟨v6, ex⟩ : ∃ y : Int32, y = (a5 + 1) := ⟨_, rfl⟩
            replace hf := xl_f hf v6 ex
            refine lv_iinc (v := v6) (lv' := [(5, .int v6), (0, .ref (E.a 29)), (1, .int a1), (2, .int a2), (3, .int a3), (4, .int a4)]) hx hb dX3_tryPairs_67 hl (k := 5) rfl (by rw [ex]; rfl) (by decide) rfl (fun ls hl => ?_)
            clear ex
            refine lv_goto (tgt := 3) hx hb dX3_tryPairs_70 (by decide) ?_
            exact ih3 a1 a2 a3 a4 v6 σ2 _ _ _ hw (lv_sub hl [1, 2, 3, 4, 5, 0] rfl) hf
          · replace hf := xif_neg c31 hf
            refine lv_aload_n hx hb dX3_tryPairs_34 rfl (lv_at hl 0 rfl) ?_
            refine lv_iload_n hx hb dX3_tryPairs_35 rfl (lv_at hl 1 rfl) ?_
            refine lv_iload_n hx hb dX3_tryPairs_36 rfl (lv_at hl 2 rfl) ?_
            refine lv_iload hx hb dX3_tryPairs_37 (lv_at hl 5 rfl) ?_
            refine lv_iload_n hx hb dX3_tryPairs_39 rfl (lv_at hl 3 rfl) ?_
            obtain ⟨σ8, hcl, hf⟩ := xc_e hf
            refine x_callv (va_runV (As := [.int a1, .int a2, .int a5, .int a3]) (rest := []) ⟨hx, hb, hml, hown, hts⟩ (mX3_tryTwoFree hE a1 a2 a5 a3 σ2 σ8 hcl H.size) (cwV 4 hts gX3_tryPairs_X3_tryTwoFree rfl rfl rfl (by decide +kernel) ⟨Nat.le_of_ble_eq_true rfl, Nat.le_of_ble_eq_true rfl⟩) (x_preV _ hw hA hG (cX29 hE) rfl) rfl rfl hl.1 rfl (lv_room (Nat.le_of_ble_eq_true rfl)) dX3_tryPairs_40 ⟨Nat.le_of_ble_eq_true rfl, Nat.le_of_ble_eq_true rfl⟩) hw hA (fun H locs hw => ?_)
            clear hcl
            refine lv_aload_n hx hb dX3_tryPairs_43 rfl (lv_at hl 0 rfl) ?_
            refine lv_iload_n hx hb dX3_tryPairs_44 rfl (lv_at hl 3 rfl) ?_
            refine lv_iload hx hb dX3_tryPairs_45 (lv_at hl 4 rfl) ?_
            obtain ⟨σ10, hcl, hf⟩ := xc_e hf
            refine x_callv (va_runV (As := [.int a3, .int a4]) (rest := []) ⟨hx, hb, hml, hown, hts⟩ (mX3_keepIfBetter hE a3 a4 σ8 σ10 hcl H.size) (cwV 2 hts gX3_tryPairs_X3_keepIfBetter rfl rfl rfl (by decide +kernel) ⟨Nat.le_of_ble_eq_true rfl, Nat.le_of_ble_eq_true rfl⟩) (x_preV _ hw hA hG (cX29 hE) rfl) rfl rfl hl.1 rfl (lv_room (Nat.le_of_ble_eq_true rfl)) dX3_tryPairs_47 ⟨Nat.le_of_ble_eq_true rfl, Nat.le_of_ble_eq_true rfl⟩) hw hA (fun H locs hw => ?_)
            clear hcl
            refine lv_aload_n hx hb dX3_tryPairs_50 rfl (lv_at hl 0 rfl) ?_
            refine lv_iload_n hx hb dX3_tryPairs_51 rfl (lv_at hl 1 rfl) ?_
            refine lv_iload_n hx hb dX3_tryPairs_52 rfl (lv_at hl 2 rfl) ?_
            refine lv_iload hx hb dX3_tryPairs_53 (lv_at hl 5 rfl) ?_
            refine lv_iload hx hb dX3_tryPairs_55 (lv_at hl 4 rfl) ?_
            obtain ⟨σ12, hcl, hf⟩ := xc_e hf
            refine x_callv (va_runV (As := [.int a1, .int a2, .int a5, .int a4]) (rest := []) ⟨hx, hb, hml, hown, hts⟩ (mX3_tryTwoFree hE a1 a2 a5 a4 σ10 σ12 hcl H.size) (cwV 4 hts gX3_tryPairs_X3_tryTwoFree rfl rfl rfl (by decide +kernel) ⟨Nat.le_of_ble_eq_true rfl, Nat.le_of_ble_eq_true rfl⟩) (x_preV _ hw hA hG (cX29 hE) rfl) rfl rfl hl.1 rfl (lv_room (Nat.le_of_ble_eq_true rfl)) dX3_tryPairs_57 ⟨Nat.le_of_ble_eq_true rfl, Nat.le_of_ble_eq_true rfl⟩) hw hA (fun H locs hw => ?_)
            clear hcl
            refine lv_aload_n hx hb dX3_tryPairs_60 rfl (lv_at hl 0 rfl) ?_
            refine lv_iload_n hx hb dX3_tryPairs_61 rfl (lv_at hl 3 rfl) ?_
            refine lv_iload hx hb dX3_tryPairs_62 (lv_at hl 4 rfl) ?_
            obtain ⟨σ14, hcl, hf⟩ := xc_e hf
            refine x_callv (va_runV (As := [.int a3, .int a4]) (rest := []) ⟨hx, hb, hml, hown, hts⟩ (mX3_keepIfBetter hE a3 a4 σ12 σ14 hcl H.size) (cwV 2 hts gX3_tryPairs_X3_keepIfBetter rfl rfl rfl (by decide +kernel) ⟨Nat.le_of_ble_eq_true rfl, Nat.le_of_ble_eq_true rfl⟩) (x_preV _ hw hA hG (cX29 hE) rfl) rfl rfl hl.1 rfl (lv_room (Nat.le_of_ble_eq_true rfl)) dX3_tryPairs_64 ⟨Nat.le_of_ble_eq_true rfl, Nat.le_of_ble_eq_true rfl⟩) hw hA (fun H locs hw => ?_)
            clear hcl
            obtain ⟨v15, ex⟩ : ∃ y : Int32, y = (a5 + 1) := ⟨_, rfl⟩
            replace hf := xl_f hf v15 ex
            refine lv_iinc (v := v15) (lv' := [(5, .int v15), (0, .ref (E.a 29)), (1, .int a1), (2, .int a2), (3, .int a3), (4, .int a4)]) hx hb dX3_tryPairs_67 hl (k := 5) rfl (by rw [ex]; rfl) (by decide) rfl (fun ls hl => ?_)
            clear ex
            refine lv_goto (tgt := 3) hx hb dX3_tryPairs_70 (by decide) ?_
            exact ih3 a1 a2 a3 a4 v15 σ14 _ _ _ hw (lv_sub hl [1, 2, 3, 4, 5, 0] rfl) hf
  refine lv_iconst (v := 0) hx hb dX3_tryPairs_0 (by decide) ?_
  refine lv_istore (lv' := [(5, .int 0), (0, .ref (E.a 29)), (1, .int p0), (2, .int p1), (3, .int p2), (4, .int p3)]) hx hb dX3_tryPairs_1 hl (by decide) rfl (fun ls hl => ?_)
  exact h3 xFU p0 p1 p2 p3 0 σ _ _ _ hw (lv_sub hl [1, 2, 3, 4, 5, 0] rfl) hf

def fX3_findMix_c16 (k7 : (Int32 → Int32 → Int32 → xSt → Option (Int32 × xSt))) : Nat → Int32 → Int32 → Int32 → Int32 → xSt → Option (Int32 × xSt)
  | 0 => fun _ _ _ _ _ => none
  | n + 1 => fun a1 a2 a3 a4 σ => (if 4 ≤ a4 then (xl (a3 + 1) fun v2 => k7 a1 a2 v2 σ) else (xc2 (fX3_isIn a3 a4 σ) fun r3 σ4 => (if r3 = 0 then (xc (fX3_tryOneFree a3 a4 σ4) fun σ7 => (xc (fX3_keepIfBetter a1 a2 σ7) fun σ9 => (xc (fX3_tryPairs a3 a4 a1 a2 σ9) fun σ11 => (xl (a4 + 1) fun v12 => fX3_findMix_c16 k7 n a1 a2 a3 v12 σ11)))) else (xl (a4 + 1) fun v5 => fX3_findMix_c16 k7 n a1 a2 a3 v5 σ4))))
theorem fX3_findMix_c16_s (k7 : (Int32 → Int32 → Int32 → xSt → Option (Int32 × xSt))) (n : Nat) (a1 : Int32) (a2 : Int32) (a3 : Int32) (a4 : Int32) (σ : xSt) : fX3_findMix_c16 k7 (n + 1) a1 a2 a3 a4 σ = ((if 4 ≤ a4 then (xl (a3 + 1) fun v2 => k7 a1 a2 v2 σ) else (xc2 (fX3_isIn a3 a4 σ) fun r3 σ4 => (if r3 = 0 then (xc (fX3_tryOneFree a3 a4 σ4) fun σ7 => (xc (fX3_keepIfBetter a1 a2 σ7) fun σ9 => (xc (fX3_tryPairs a3 a4 a1 a2 σ9) fun σ11 => (xl (a4 + 1) fun v12 => fX3_findMix_c16 k7 n a1 a2 a3 v12 σ11)))) else (xl (a4 + 1) fun v5 => fX3_findMix_c16 k7 n a1 a2 a3 v5 σ4)))) : Option (Int32 × xSt)) := rfl
def fX3_findMix_c7 : Nat → Int32 → Int32 → Int32 → xSt → Option (Int32 × xSt)
  | 0 => fun _ _ _ _ => none
  | n + 1 => fun a1 a2 a3 σ => (if 16 ≤ a3 then (if (σ 29 4) ≤ 0 then some (0, σ) else some (1, σ)) else fX3_findMix_c16 (fX3_findMix_c7 n) xFU a1 a2 a3 0 σ)
theorem fX3_findMix_c7_s (n : Nat) (a1 : Int32) (a2 : Int32) (a3 : Int32) (σ : xSt) : fX3_findMix_c7 (n + 1) a1 a2 a3 σ = ((if 16 ≤ a3 then (if (σ 29 4) ≤ 0 then some (0, σ) else some (1, σ)) else fX3_findMix_c16 (fX3_findMix_c7 n) xFU a1 a2 a3 0 σ) : Option (Int32 × xSt)) := rfl
def fX3_findMix (p0 : Int32) (p1 : Int32) (σ : xSt) : Option (Int32 × xSt) := (xp σ 29 4 0 fun σ1 => fX3_findMix_c7 xFU p0 p1 0 σ1)
abbrev rmX3_findMix : Room := { frames := 5, cells := 0, slots := 0, locals := 143 }
set_option maxRecDepth 100000 in
set_option maxHeartbeats 4000000 in
theorem mX3_findMix {l : Launch} {E : xE} (hE : E.sh = shX) (p0 : Int32) (p1 : Int32) (σ : xSt) (o1 : Int32) (o2 : xSt) (hf : fX3_findMix p0 p1 σ = some (o1, o2)) : xMi l yX3_findMix wsX3_findMix rmX3_findMix E [.ref (E.a 29), .int p0, .int p1] σ o1 o2 := by
  unfold fX3_findMix at hf
  refine xMi_of (cc := cX3_findMix) (maxL := 5) (ret := (some .boolean)) (by decide) rfl (Nat.le_of_ble_eq_true rfl) ?_
  intro p e s m args below meth c A ls ⟨hx, hb, hr, hml, hown, hts, hlk⟩ hA hG hw hl
  have hown : s.vm.findClass RX3 = some m.cls := hown
  have hl : lv_has ls 5 [(0, .ref (E.a 29)), (1, .int p0), (2, .int p1)] := hl
  have hk27 := hts (.fieldLink RX3 27 "OvenRound$Flours" "bestBottom" "I") (by decide +kernel)
  have hiX3 : ∀ w ∈ wsX30, w ∈ wsX3_findMix := by decide +kernel
  have h7 : ∀ (n : Nat) (a1 : Int32) (a2 : Int32) (a3 : Int32) (σ : xSt) (H : Heap) (locs : List Loc) (ls : Array Slot), xw E A s.heap s σ H locs → lv_has ls 5 [(0, .ref (E.a 29)), (1, .int a1), (2, .int a2), (3, .int a3)] → fX3_findMix_c7 n a1 a2 a3 σ = some (o1, o2) → W p l e rmX3_findMix s m args below meth c H locs 0 0 (MQ below (xQi E A o1 o2) args s 0 0 A) (F0 m 7 ls []) := by
    intro n7
    induction n7 with
    | zero => intro a1 a2 a3 σ H locs ls hw hl hf; exact nomatch hf
    | succ n7 ih7 =>
      have h16 : ∀ (n : Nat) (a1 : Int32) (a2 : Int32) (a3 : Int32) (a4 : Int32) (σ : xSt) (H : Heap) (locs : List Loc) (ls : Array Slot), xw E A s.heap s σ H locs → lv_has ls 5 [(0, .ref (E.a 29)), (1, .int a1), (2, .int a2), (3, .int a3), (4, .int a4)] → fX3_findMix_c16 (fX3_findMix_c7 n7) n a1 a2 a3 a4 σ = some (o1, o2) → W p l e rmX3_findMix s m args below meth c H locs 0 0 (MQ below (xQi E A o1 o2) args s 0 0 A) (F0 m 16 ls []) := by
        intro n16
        induction n16 with
        | zero => intro a1 a2 a3 a4 σ H locs ls hw hl hf; exact nomatch hf
        | succ n16 ih16 =>
          intro a1 a2 a3 a4 σ H locs ls hw hl hf
          rw [fX3_findMix_c16_s] at hf
          refine lv_iload hx hb dX3_findMix_16 (lv_at hl 4 rfl) ?_
          refine lv_iconst (v := 4) hx hb dX3_findMix_18 (by decide) ?_
          refine lv_icmp_ge (tgt := 59) hx hb dX3_findMix_19 (by decide) (fun c19 => ?_) (fun c19 => ?_)
          · replace hf := xif_pos c19 hf
            obtain ⟨v2, ex⟩ : ∃ y : Int32, y = (a3 + 1) := ⟨_, rfl⟩
            replace hf := xl_f hf v2 ex
            refine lv_iinc (v := v2) (lv' := [(3, .int v2), (0, .ref (E.a 29)), (1, .int a1), (2, .int a2), (4, .int a4)]) hx hb dX3_findMix_59 hl (k := 3) rfl (by rw [ex]; rfl) (by decide) rfl (fun ls hl => ?_)
            clear ex
            refine lv_goto (tgt := 7) hx hb dX3_findMix_62 (by decide) ?_
            exact ih7 a1 a2 v2 σ _ _ _ hw (lv_sub hl [1, 2, 3, 0] rfl) hf
          · replace hf := xif_neg c19 hf
            refine lv_iload_n hx hb dX3_findMix_22 rfl (lv_at hl 3 rfl) ?_
            refine lv_iload hx hb dX3_findMix_23 (lv_at hl 4 rfl) ?_
            obtain ⟨r3, σ4, hcl, hf⟩ := xc2_f hf
            refine x_calli (va_runS (As := [.int a3, .int a4]) (rest := []) ⟨hx, hb, hml, hown, hts⟩ (mX3_isIn hE a3 a4 σ r3 σ4 hcl H.size) (va_cwS 2 hts gX3_findMix_X3_isIn rfl rfl rfl (by decide +kernel) ⟨Nat.le_of_ble_eq_true rfl, Nat.le_of_ble_eq_true rfl⟩) (x_preS _ hw hA hG) rfl rfl hl.1 rfl (lv_room (Nat.le_of_ble_eq_true rfl)) dX3_findMix_25 ⟨Nat.le_of_ble_eq_true rfl, Nat.le_of_ble_eq_true rfl⟩) hw hA (fun H locs hw => ?_)
            clear hcl
            refine lv_if_ne (tgt := 53) hx hb dX3_findMix_28 (by decide) (fun c28 => ?_) (fun c28 => ?_)
            · replace hf := xif_neg c28 hf
              obtain ⟨v5, ex⟩ : ∃ y : Int32, y = (a4 + 1) := ⟨_, rfl⟩
              replace hf := xl_f hf v5 ex
              refine lv_iinc (v := v5) (lv' := [(4, .int v5), (0, .ref (E.a 29)), (1, .int a1), (2, .int a2), (3, .int a3)]) hx hb dX3_findMix_53 hl (k := 4) rfl (by rw [ex]; rfl) (by decide) rfl (fun ls hl => ?_)
              clear ex
              refine lv_goto (tgt := 16) hx hb dX3_findMix_56 (by decide) ?_
              exact ih16 a1 a2 a3 v5 σ4 _ _ _ hw (lv_sub hl [1, 2, 3, 4, 0] rfl) hf
            · replace hf := xif_pos c28 hf
              refine lv_aload_n hx hb dX3_findMix_31 rfl (lv_at hl 0 rfl) ?_
              refine lv_iload_n hx hb dX3_findMix_32 rfl (lv_at hl 3 rfl) ?_
              refine lv_iload hx hb dX3_findMix_33 (lv_at hl 4 rfl) ?_
              obtain ⟨σ7, hcl, hf⟩ := xc_e hf
              refine x_callv (va_runV (As := [.int a3, .int a4]) (rest := []) ⟨hx, hb, hml, hown, hts⟩ (mX3_tryOneFree hE a3 a4 σ4 σ7 hcl H.size) (cwV 2 hts gX3_findMix_X3_tryOneFree rfl rfl rfl (by decide +kernel) ⟨Nat.le_of_ble_eq_true rfl, Nat.le_of_ble_eq_true rfl⟩) (x_preV _ hw hA hG (cX29 hE) rfl) rfl rfl hl.1 rfl (lv_room (Nat.le_of_ble_eq_true rfl)) dX3_findMix_35 ⟨Nat.le_of_ble_eq_true rfl, Nat.le_of_ble_eq_true rfl⟩) hw hA (fun H locs hw => ?_)
              clear hcl
              refine lv_aload_n hx hb dX3_findMix_38 rfl (lv_at hl 0 rfl) ?_
              refine lv_iload_n hx hb dX3_findMix_39 rfl (lv_at hl 1 rfl) ?_
              refine lv_iload_n hx hb dX3_findMix_40 rfl (lv_at hl 2 rfl) ?_
              obtain ⟨σ9, hcl, hf⟩ := xc_e hf
              refine x_callv (va_runV (As := [.int a1, .int a2]) (rest := []) ⟨hx, hb, hml, hown, hts⟩ (mX3_keepIfBetter hE a1 a2 σ7 σ9 hcl H.size) (cwV 2 hts gX3_findMix_X3_keepIfBetter rfl rfl rfl (by decide +kernel) ⟨Nat.le_of_ble_eq_true rfl, Nat.le_of_ble_eq_true rfl⟩) (x_preV _ hw hA hG (cX29 hE) rfl) rfl rfl hl.1 rfl (lv_room (Nat.le_of_ble_eq_true rfl)) dX3_findMix_41 ⟨Nat.le_of_ble_eq_true rfl, Nat.le_of_ble_eq_true rfl⟩) hw hA (fun H locs hw => ?_)
              clear hcl
              refine lv_aload_n hx hb dX3_findMix_44 rfl (lv_at hl 0 rfl) ?_
              refine lv_iload_n hx hb dX3_findMix_45 rfl (lv_at hl 3 rfl) ?_
              refine lv_iload hx hb dX3_findMix_46 (lv_at hl 4 rfl) ?_
              refine lv_iload_n hx hb dX3_findMix_48 rfl (lv_at hl 1 rfl) ?_
              refine lv_iload_n hx hb dX3_findMix_49 rfl (lv_at hl 2 rfl) ?_
              obtain ⟨σ11, hcl, hf⟩ := xc_e hf
              refine x_callv (va_runV (As := [.int a3, .int a4, .int a1, .int a2]) (rest := []) ⟨hx, hb, hml, hown, hts⟩ (mX3_tryPairs hE a3 a4 a1 a2 σ9 σ11 hcl H.size) (cwV 4 hts gX3_findMix_X3_tryPairs rfl rfl rfl (by decide +kernel) ⟨Nat.le_of_ble_eq_true rfl, Nat.le_of_ble_eq_true rfl⟩) (x_preV _ hw hA hG (cX29 hE) rfl) rfl rfl hl.1 rfl (lv_room (Nat.le_of_ble_eq_true rfl)) dX3_findMix_50 ⟨Nat.le_of_ble_eq_true rfl, Nat.le_of_ble_eq_true rfl⟩) hw hA (fun H locs hw => ?_)
              clear hcl
              obtain ⟨v12, ex⟩ : ∃ y : Int32, y = (a4 + 1) := ⟨_, rfl⟩
              replace hf := xl_f hf v12 ex
              refine lv_iinc (v := v12) (lv' := [(4, .int v12), (0, .ref (E.a 29)), (1, .int a1), (2, .int a2), (3, .int a3)]) hx hb dX3_findMix_53 hl (k := 4) rfl (by rw [ex]; rfl) (by decide) rfl (fun ls hl => ?_)
              clear ex
              refine lv_goto (tgt := 16) hx hb dX3_findMix_56 (by decide) ?_
              exact ih16 a1 a2 a3 v12 σ11 _ _ _ hw (lv_sub hl [1, 2, 3, 4, 0] rfl) hf
      intro a1 a2 a3 σ H locs ls hw hl hf
      rw [fX3_findMix_c7_s] at hf
      refine lv_iload_n hx hb dX3_findMix_7 rfl (lv_at hl 3 rfl) ?_
      refine lv_bipush (v := 16) hx hb dX3_findMix_8 (by decide) ?_
      refine lv_icmp_ge (tgt := 65) hx hb dX3_findMix_10 (by decide) (fun c10 => ?_) (fun c10 => ?_)
      · replace hf := xif_pos c10 hf
        refine lv_aload_n hx hb dX3_findMix_65 rfl (lv_at hl 0 rfl) ?_
        refine x_geti hx hb hw (cX29 hE) (own := RX3) (ref := RX3) (C := RX3) (T := TX3) (N := 7) hts hiX3 hown rfl 4 (by decide) hk27 (fun _ h9 => h9) rfl dX3_findMix_66 ?_
        refine lv_if_le (tgt := 76) hx hb dX3_findMix_69 (by decide) (fun c69 => ?_) (fun c69 => ?_)
        · replace hf := xif_pos c69 hf
          refine lv_iconst (v := 0) hx hb dX3_findMix_76 (by decide) ?_
          exact x_zretc hx hb hr hlk hw (by decide) hf dX3_findMix_77
        · replace hf := xif_neg c69 hf
          refine lv_iconst (v := 1) hx hb dX3_findMix_72 (by decide) ?_
          refine lv_goto (tgt := 77) hx hb dX3_findMix_73 (by decide) ?_
          exact x_zretc hx hb hr hlk hw (by decide) hf dX3_findMix_77
      · replace hf := xif_neg c10 hf
        refine lv_iconst (v := 0) hx hb dX3_findMix_13 (by decide) ?_
        refine lv_istore (lv' := [(4, .int 0), (0, .ref (E.a 29)), (1, .int a1), (2, .int a2), (3, .int a3)]) hx hb dX3_findMix_14 hl (by decide) rfl (fun ls hl => ?_)
        exact h16 xFU a1 a2 a3 0 σ _ _ _ hw (lv_sub hl [1, 2, 3, 4, 0] rfl) hf
  refine lv_aload_n hx hb dX3_findMix_0 rfl (lv_at hl 0 rfl) ?_
  refine lv_iconst (v := 0) hx hb dX3_findMix_1 (by decide) ?_
  refine x_puti hx hb hw (cX29 hE) (own := RX3) (ref := RX3) (C := RX3) (T := TX3) (N := 7) hts hiX3 tyX3 tyX3_ok nmX3 hown rfl 4 (by decide) hk27 (fun _ h9 => h9) rfl (by decide +kernel) rfl dX3_findMix_2 (fun σ1 H locs ex hw => ?_)
  replace hf := xp_f hf σ1 ex
  clear ex
  refine lv_iconst (v := 0) hx hb dX3_findMix_5 (by decide) ?_
  refine lv_istore_n (lv' := [(3, .int 0), (0, .ref (E.a 29)), (1, .int p0), (2, .int p1)]) hx hb dX3_findMix_6 rfl hl (by decide) rfl (fun ls hl => ?_)
  exact h7 xFU p0 p1 0 σ1 _ _ _ hw (lv_sub hl [1, 2, 3, 0] rfl) hf

def fX3_save (p1 : Int32) (σ : xSt) : Option (Int32 × xSt) := (xcpy σ 30 4 0 1 1560 p1 4 fun σ1 => (xcpy σ1 31 4 0 1 1560 (p1 + 4) 4 fun σ2 => (xcpy σ2 32 4 0 1 1560 (p1 + 8) 4 fun σ3 => some ((p1 + 12), σ3))))
abbrev rmX3_save : Room := { frames := 1, cells := 0, slots := 0, locals := 96 }
set_option maxRecDepth 100000 in
set_option maxHeartbeats 4000000 in
theorem mX3_save {l : Launch} {E : xE} (hE : E.sh = shX) (p1 : Int32) (σ : xSt) (o1 : Int32) (o2 : xSt) (hf : fX3_save p1 σ = some (o1, o2)) : xMi l yX3_save wsX3_save rmX3_save E [.ref (E.a 29), .ref (E.a 1), .int p1] σ o1 o2 := by
  unfold fX3_save at hf
  refine xMi_of (cc := cX3_save) (maxL := 3) (ret := (some .int)) (by decide) rfl (Nat.le_of_ble_eq_true rfl) ?_
  intro p e s m args below meth c A ls ⟨hx, hb, hr, hml, hown, hts, hlk⟩ hA hG hw hl
  have hown : s.vm.findClass RX3 = some m.cls := hown
  have hl : lv_has ls 3 [(0, .ref (E.a 29)), (1, .ref (E.a 1)), (2, .int p1)] := hl
  have hk9 := hts (.fieldLink RX3 9 "OvenRound$Flours" "strength" "[I") (by decide +kernel)
  have hiX3 : ∀ w ∈ wsX30, w ∈ wsX3_save := by decide +kernel
  have hk15 := hts (.fieldLink RX3 15 "OvenRound$Flours" "cost" "[I") (by decide +kernel)
  have hk18 := hts (.fieldLink RX3 18 "OvenRound$Flours" "cap" "[I") (by decide +kernel)
  refine lv_aload_n hx hb dX3_save_0 rfl (lv_at hl 0 rfl) ?_
  refine x_getr hx hb hw (cX29 hE) (own := RX3) (ref := RX3) (C := RX3) (T := TX3) (N := 7) hts hiX3 hown rfl 0 (by decide) hk9 (fun _ h9 => h9) rfl dX3_save_1 ?_
  refine lv_iconst (v := 0) hx hb dX3_save_4 (by decide) ?_
  refine lv_aload_n hx hb dX3_save_5 rfl (lv_at hl 1 rfl) ?_
  refine lv_iload_n hx hb dX3_save_6 rfl (lv_at hl 2 rfl) ?_
  refine lv_iconst (v := 4) hx hb dX3_save_7 (by decide) ?_
  obtain ⟨hin, hf⟩ := xcpy_f hf
  refine x_copy hx hb (hml.trans hl.1.symm) hw hown (hts (.methodLink RX3 59 arraycopyName) (by decide +kernel)) (hts (.native arraycopyName) (by decide +kernel)) (hts (.static arraycopyName) (by decide +kernel)) (hts (.initialized "java/lang/System") (by decide +kernel)) (cX30 hE) (cX1 hE) hin (Nat.le_of_ble_eq_true rfl) (Nat.le_of_ble_eq_true rfl) dX3_save_8 (fun σ1 H locs ex hw => ?_)
  replace hf := hf σ1 ex
  clear ex hin
  refine lv_aload_n hx hb dX3_save_11 rfl (lv_at hl 0 rfl) ?_
  refine x_getr hx hb hw (cX29 hE) (own := RX3) (ref := RX3) (C := RX3) (T := TX3) (N := 7) hts hiX3 hown rfl 1 (by decide) hk15 (fun _ h9 => h9) rfl dX3_save_12 ?_
  refine lv_iconst (v := 0) hx hb dX3_save_15 (by decide) ?_
  refine lv_aload_n hx hb dX3_save_16 rfl (lv_at hl 1 rfl) ?_
  refine lv_iload_n hx hb dX3_save_17 rfl (lv_at hl 2 rfl) ?_
  refine lv_iconst (v := 4) hx hb dX3_save_18 (by decide) ?_
  refine lv_iadd hx hb dX3_save_19 ?_
  refine lv_iconst (v := 4) hx hb dX3_save_20 (by decide) ?_
  obtain ⟨hin, hf⟩ := xcpy_f hf
  refine x_copy hx hb (hml.trans hl.1.symm) hw hown (hts (.methodLink RX3 59 arraycopyName) (by decide +kernel)) (hts (.native arraycopyName) (by decide +kernel)) (hts (.static arraycopyName) (by decide +kernel)) (hts (.initialized "java/lang/System") (by decide +kernel)) (cX31 hE) (cX1 hE) hin (Nat.le_of_ble_eq_true rfl) (Nat.le_of_ble_eq_true rfl) dX3_save_21 (fun σ2 H locs ex hw => ?_)
  replace hf := hf σ2 ex
  clear ex hin
  refine lv_aload_n hx hb dX3_save_24 rfl (lv_at hl 0 rfl) ?_
  refine x_getr hx hb hw (cX29 hE) (own := RX3) (ref := RX3) (C := RX3) (T := TX3) (N := 7) hts hiX3 hown rfl 2 (by decide) hk18 (fun _ h9 => h9) rfl dX3_save_25 ?_
  refine lv_iconst (v := 0) hx hb dX3_save_28 (by decide) ?_
  refine lv_aload_n hx hb dX3_save_29 rfl (lv_at hl 1 rfl) ?_
  refine lv_iload_n hx hb dX3_save_30 rfl (lv_at hl 2 rfl) ?_
  refine lv_bipush (v := 8) hx hb dX3_save_31 (by decide) ?_
  refine lv_iadd hx hb dX3_save_33 ?_
  refine lv_iconst (v := 4) hx hb dX3_save_34 (by decide) ?_
  obtain ⟨hin, hf⟩ := xcpy_f hf
  refine x_copy hx hb (hml.trans hl.1.symm) hw hown (hts (.methodLink RX3 59 arraycopyName) (by decide +kernel)) (hts (.native arraycopyName) (by decide +kernel)) (hts (.static arraycopyName) (by decide +kernel)) (hts (.initialized "java/lang/System") (by decide +kernel)) (cX32 hE) (cX1 hE) hin (Nat.le_of_ble_eq_true rfl) (Nat.le_of_ble_eq_true rfl) dX3_save_35 (fun σ3 H locs ex hw => ?_)
  replace hf := hf σ3 ex
  clear ex hin
  refine lv_iload_n hx hb dX3_save_38 rfl (lv_at hl 2 rfl) ?_
  refine lv_bipush (v := 12) hx hb dX3_save_39 (by decide) ?_
  refine lv_iadd hx hb dX3_save_41 ?_
  exact x_iret hx hb hr hlk hw hf dX3_save_42

def fX3_load (p1 : Int32) (σ : xSt) : Option (Int32 × xSt) := (xcpy σ 1 1560 p1 30 4 0 4 fun σ1 => (xcpy σ1 1 1560 (p1 + 4) 31 4 0 4 fun σ2 => (xcpy σ2 1 1560 (p1 + 8) 32 4 0 4 fun σ3 => some ((p1 + 12), σ3))))
abbrev rmX3_load : Room := { frames := 1, cells := 0, slots := 0, locals := 96 }
set_option maxRecDepth 100000 in
set_option maxHeartbeats 4000000 in
theorem mX3_load {l : Launch} {E : xE} (hE : E.sh = shX) (p1 : Int32) (σ : xSt) (o1 : Int32) (o2 : xSt) (hf : fX3_load p1 σ = some (o1, o2)) : xMi l yX3_load wsX3_load rmX3_load E [.ref (E.a 29), .ref (E.a 1), .int p1] σ o1 o2 := by
  unfold fX3_load at hf
  refine xMi_of (cc := cX3_load) (maxL := 3) (ret := (some .int)) (by decide) rfl (Nat.le_of_ble_eq_true rfl) ?_
  intro p e s m args below meth c A ls ⟨hx, hb, hr, hml, hown, hts, hlk⟩ hA hG hw hl
  have hown : s.vm.findClass RX3 = some m.cls := hown
  have hl : lv_has ls 3 [(0, .ref (E.a 29)), (1, .ref (E.a 1)), (2, .int p1)] := hl
  have hk9 := hts (.fieldLink RX3 9 "OvenRound$Flours" "strength" "[I") (by decide +kernel)
  have hiX3 : ∀ w ∈ wsX30, w ∈ wsX3_load := by decide +kernel
  have hk15 := hts (.fieldLink RX3 15 "OvenRound$Flours" "cost" "[I") (by decide +kernel)
  have hk18 := hts (.fieldLink RX3 18 "OvenRound$Flours" "cap" "[I") (by decide +kernel)
  refine lv_aload_n hx hb dX3_load_0 rfl (lv_at hl 1 rfl) ?_
  refine lv_iload_n hx hb dX3_load_1 rfl (lv_at hl 2 rfl) ?_
  refine lv_aload_n hx hb dX3_load_2 rfl (lv_at hl 0 rfl) ?_
  refine x_getr hx hb hw (cX29 hE) (own := RX3) (ref := RX3) (C := RX3) (T := TX3) (N := 7) hts hiX3 hown rfl 0 (by decide) hk9 (fun _ h9 => h9) rfl dX3_load_3 ?_
  refine lv_iconst (v := 0) hx hb dX3_load_6 (by decide) ?_
  refine lv_iconst (v := 4) hx hb dX3_load_7 (by decide) ?_
  obtain ⟨hin, hf⟩ := xcpy_f hf
  refine x_copy hx hb (hml.trans hl.1.symm) hw hown (hts (.methodLink RX3 59 arraycopyName) (by decide +kernel)) (hts (.native arraycopyName) (by decide +kernel)) (hts (.static arraycopyName) (by decide +kernel)) (hts (.initialized "java/lang/System") (by decide +kernel)) (cX1 hE) (cX30 hE) hin (Nat.le_of_ble_eq_true rfl) (Nat.le_of_ble_eq_true rfl) dX3_load_8 (fun σ1 H locs ex hw => ?_)
  replace hf := hf σ1 ex
  clear ex hin
  refine lv_aload_n hx hb dX3_load_11 rfl (lv_at hl 1 rfl) ?_
  refine lv_iload_n hx hb dX3_load_12 rfl (lv_at hl 2 rfl) ?_
  refine lv_iconst (v := 4) hx hb dX3_load_13 (by decide) ?_
  refine lv_iadd hx hb dX3_load_14 ?_
  refine lv_aload_n hx hb dX3_load_15 rfl (lv_at hl 0 rfl) ?_
  refine x_getr hx hb hw (cX29 hE) (own := RX3) (ref := RX3) (C := RX3) (T := TX3) (N := 7) hts hiX3 hown rfl 1 (by decide) hk15 (fun _ h9 => h9) rfl dX3_load_16 ?_
  refine lv_iconst (v := 0) hx hb dX3_load_19 (by decide) ?_
  refine lv_iconst (v := 4) hx hb dX3_load_20 (by decide) ?_
  obtain ⟨hin, hf⟩ := xcpy_f hf
  refine x_copy hx hb (hml.trans hl.1.symm) hw hown (hts (.methodLink RX3 59 arraycopyName) (by decide +kernel)) (hts (.native arraycopyName) (by decide +kernel)) (hts (.static arraycopyName) (by decide +kernel)) (hts (.initialized "java/lang/System") (by decide +kernel)) (cX1 hE) (cX31 hE) hin (Nat.le_of_ble_eq_true rfl) (Nat.le_of_ble_eq_true rfl) dX3_load_21 (fun σ2 H locs ex hw => ?_)
  replace hf := hf σ2 ex
  clear ex hin
  refine lv_aload_n hx hb dX3_load_24 rfl (lv_at hl 1 rfl) ?_
  refine lv_iload_n hx hb dX3_load_25 rfl (lv_at hl 2 rfl) ?_
  refine lv_bipush (v := 8) hx hb dX3_load_26 (by decide) ?_
  refine lv_iadd hx hb dX3_load_28 ?_
  refine lv_aload_n hx hb dX3_load_29 rfl (lv_at hl 0 rfl) ?_
  refine x_getr hx hb hw (cX29 hE) (own := RX3) (ref := RX3) (C := RX3) (T := TX3) (N := 7) hts hiX3 hown rfl 2 (by decide) hk18 (fun _ h9 => h9) rfl dX3_load_30 ?_
  refine lv_iconst (v := 0) hx hb dX3_load_33 (by decide) ?_
  refine lv_iconst (v := 4) hx hb dX3_load_34 (by decide) ?_
  obtain ⟨hin, hf⟩ := xcpy_f hf
  refine x_copy hx hb (hml.trans hl.1.symm) hw hown (hts (.methodLink RX3 59 arraycopyName) (by decide +kernel)) (hts (.native arraycopyName) (by decide +kernel)) (hts (.static arraycopyName) (by decide +kernel)) (hts (.initialized "java/lang/System") (by decide +kernel)) (cX1 hE) (cX32 hE) hin (Nat.le_of_ble_eq_true rfl) (Nat.le_of_ble_eq_true rfl) dX3_load_35 (fun σ3 H locs ex hw => ?_)
  replace hf := hf σ3 ex
  clear ex hin
  refine lv_iload_n hx hb dX3_load_38 rfl (lv_at hl 2 rfl) ?_
  refine lv_bipush (v := 12) hx hb dX3_load_39 (by decide) ?_
  refine lv_iadd hx hb dX3_load_41 ?_
  exact x_iret hx hb hr hlk hw hf dX3_load_42

def fX4_lossOf_c6 : Nat → Int32 → Int32 → Int32 → Int32 → Int32 → Int32 → xSt → Option (Int32 × xSt)
  | 0 => fun _ _ _ _ _ _ _ => none
  | n + 1 => fun a1 a2 a3 a4 a5 a6 σ => (xr σ 37 6 a1 fun v1 => (if v1 ≤ a6 then some (a5, σ) else (xr σ 36 360 ((a1 * 60) + a6) fun v2 => (xl (a2 - v2) fun v3 => (if v3 ≤ 0 then (xl (a5 + (a4 * (-v3))) fun v4 => (xl (a6 + 1) fun v5 => fX4_lossOf_c6 n a1 a2 a3 a4 v4 v5 σ)) else (xl (a5 + (a3 * v3)) fun v6 => (xl (a6 + 1) fun v7 => fX4_lossOf_c6 n a1 a2 a3 a4 v6 v7 σ)))))))
theorem fX4_lossOf_c6_s (n : Nat) (a1 : Int32) (a2 : Int32) (a3 : Int32) (a4 : Int32) (a5 : Int32) (a6 : Int32) (σ : xSt) : fX4_lossOf_c6 (n + 1) a1 a2 a3 a4 a5 a6 σ = ((xr σ 37 6 a1 fun v1 => (if v1 ≤ a6 then some (a5, σ) else (xr σ 36 360 ((a1 * 60) + a6) fun v2 => (xl (a2 - v2) fun v3 => (if v3 ≤ 0 then (xl (a5 + (a4 * (-v3))) fun v4 => (xl (a6 + 1) fun v5 => fX4_lossOf_c6 n a1 a2 a3 a4 v4 v5 σ)) else (xl (a5 + (a3 * v3)) fun v6 => (xl (a6 + 1) fun v7 => fX4_lossOf_c6 n a1 a2 a3 a4 v6 v7 σ))))))) : Option (Int32 × xSt)) := rfl
def fX4_lossOf (p0 : Int32) (p1 : Int32) (p2 : Int32) (p3 : Int32) (σ : xSt) : Option (Int32 × xSt) := fX4_lossOf_c6 xFU p0 p1 p2 p3 0 0 σ
abbrev rmX4_lossOf : Room := { frames := 0, cells := 0, slots := 0, locals := 0 }
set_option maxRecDepth 100000 in
set_option maxHeartbeats 4000000 in
theorem mX4_lossOf {l : Launch} {E : xE} (hE : E.sh = shX) (p0 : Int32) (p1 : Int32) (p2 : Int32) (p3 : Int32) (σ : xSt) (o1 : Int32) (o2 : xSt) (hf : fX4_lossOf p0 p1 p2 p3 σ = some (o1, o2)) : xMi l yX4_lossOf wsX4_lossOf rmX4_lossOf E [.ref (E.a 35), .int p0, .int p1, .int p2, .int p3] σ o1 o2 := by
  unfold fX4_lossOf at hf
  refine xMi_of (cc := cX4_lossOf) (maxL := 8) (ret := (some .int)) (by decide) rfl (Nat.le_of_ble_eq_true rfl) ?_
  intro p e s m args below meth c A ls ⟨hx, hb, hr, hml, hown, hts, hlk⟩ hA hG hw hl
  have hown : s.vm.findClass RX4 = some m.cls := hown
  have hl : lv_has ls 8 [(0, .ref (E.a 35)), (1, .int p0), (2, .int p1), (3, .int p2), (4, .int p3)] := hl
  have hk15 := hts (.fieldLink RX4 15 "OvenRound$Notes" "count" "[I") (by decide +kernel)
  have hiX4 : ∀ w ∈ wsX40, w ∈ wsX4_lossOf := by decide +kernel
  have hk9 := hts (.fieldLink RX4 9 "OvenRound$Notes" "wanted" "[I") (by decide +kernel)
  have h6 : ∀ (n : Nat) (a1 : Int32) (a2 : Int32) (a3 : Int32) (a4 : Int32) (a5 : Int32) (a6 : Int32) (σ : xSt) (H : Heap) (locs : List Loc) (ls : Array Slot), xw E A s.heap s σ H locs → lv_has ls 8 [(0, .ref (E.a 35)), (1, .int a1), (2, .int a2), (3, .int a3), (4, .int a4), (5, .int a5), (6, .int a6)] → fX4_lossOf_c6 n a1 a2 a3 a4 a5 a6 σ = some (o1, o2) → W p l e rmX4_lossOf s m args below meth c H locs 0 0 (MQ below (xQi E A o1 o2) args s 0 0 A) (F0 m 6 ls []) := by
    intro n6
    induction n6 with
    | zero => intro a1 a2 a3 a4 a5 a6 σ H locs ls hw hl hf; exact nomatch hf
    | succ n6 ih6 =>
      intro a1 a2 a3 a4 a5 a6 σ H locs ls hw hl hf
      rw [fX4_lossOf_c6_s] at hf
      refine lv_iload hx hb dX4_lossOf_6 (lv_at hl 6 rfl) ?_
      refine lv_aload_n hx hb dX4_lossOf_8 rfl (lv_at hl 0 rfl) ?_
      refine x_getr hx hb hw (cX35 hE) (own := RX4) (ref := RX4) (C := RX4) (T := TX4) (N := 2) hts hiX4 hown rfl 1 (by decide) hk15 (fun _ h9 => h9) rfl dX4_lossOf_9 ?_
      refine lv_iload_n hx hb dX4_lossOf_12 rfl (lv_at hl 1 rfl) ?_
      obtain ⟨hin, hf⟩ := xr_f hf
      refine x_iald hx hb hw (cX37 hE) hin dX4_lossOf_13 ?_
      refine lv_topi (fun v1 ex => ?_)
      replace hf := hf v1 ex
      clear ex hin
      refine lv_icmp_ge (tgt := 62) hx hb dX4_lossOf_14 (by decide) (fun c14 => ?_) (fun c14 => ?_)
      · replace hf := xif_pos c14 hf
        refine lv_iload hx hb dX4_lossOf_62 (lv_at hl 5 rfl) ?_
        exact x_iret hx hb hr hlk hw hf dX4_lossOf_64
      · replace hf := xif_neg c14 hf
        refine lv_iload_n hx hb dX4_lossOf_17 rfl (lv_at hl 2 rfl) ?_
        refine lv_aload_n hx hb dX4_lossOf_18 rfl (lv_at hl 0 rfl) ?_
        refine x_getr hx hb hw (cX35 hE) (own := RX4) (ref := RX4) (C := RX4) (T := TX4) (N := 2) hts hiX4 hown rfl 0 (by decide) hk9 (fun _ h9 => h9) rfl dX4_lossOf_19 ?_
        refine lv_iload_n hx hb dX4_lossOf_22 rfl (lv_at hl 1 rfl) ?_
        refine lv_bipush (v := 60) hx hb dX4_lossOf_23 (by decide) ?_
        refine lv_imul hx hb dX4_lossOf_25 ?_
        refine lv_iload hx hb dX4_lossOf_26 (lv_at hl 6 rfl) ?_
        refine lv_iadd hx hb dX4_lossOf_28 ?_
        obtain ⟨hin, hf⟩ := xr_f hf
        refine x_iald hx hb hw (cX36 hE) hin dX4_lossOf_29 ?_
        refine lv_topi (fun v2 ex => ?_)
        replace hf := hf v2 ex
        clear ex hin
        refine lv_isub hx hb dX4_lossOf_30 ?_
        refine lv_topi (fun v3 ex => ?_)
        replace hf := xl_f hf v3 ex
        clear ex
        refine lv_istore (lv' := [(7, .int v3), (0, .ref (E.a 35)), (1, .int a1), (2, .int a2), (3, .int a3), (4, .int a4), (5, .int a5), (6, .int a6)]) hx hb dX4_lossOf_31 hl (by decide) rfl (fun ls hl => ?_)
        refine lv_iload hx hb dX4_lossOf_33 (lv_at hl 6 rfl) ?_
        refine lv_iload hx hb dX4_lossOf_35 (lv_at hl 0 rfl) ?_
        refine lv_if_le (tgt := 47) hx hb dX4_lossOf_37 (by decide) (fun c37 => ?_) (fun c37 => ?_)
        · replace hf := xif_pos c37 hf
          refine lv_iload hx hb dX4_lossOf_47 (lv_at hl 5 rfl) ?_
          refine lv_iload hx hb dX4_lossOf_49 (lv_at hl 0 rfl) ?_
          refine lv_ineg hx hb dX4_lossOf_51 ?_
          refine lv_imul hx hb dX4_lossOf_52 ?_
          refine lv_iadd hx hb dX4_lossOf_53 ?_
          refine lv_topi (fun v4 ex => ?_)
          replace hf := xl_f hf v4 ex
          clear ex
          refine lv_istore (lv' := [(5, .int v4), (7, .int v3), (0, .ref (E.a 35)), (1, .int a1), (2, .int a2), (3, .int a3), (4, .int a4), (6, .int a6)]) hx hb dX4_lossOf_54 hl (by decide) rfl (fun ls hl => ?_)
          obtain ⟨v5, ex⟩ : ∃ y : Int32, y = (a6 + 1) := ⟨_, rfl⟩
          replace hf := xl_f hf v5 ex
          refine lv_iinc (v := v5) (lv' := [(6, .int v5), (5, .int v4), (7, .int v3), (0, .ref (E.a 35)), (1, .int a1), (2, .int a2), (3, .int a3), (4, .int a4)]) hx hb dX4_lossOf_56 hl (k := 7) rfl (by rw [ex]; rfl) (by decide) rfl (fun ls hl => ?_)
          clear ex
          refine lv_goto (tgt := 6) hx hb dX4_lossOf_59 (by decide) ?_
          exact ih6 a1 a2 a3 a4 v4 v5 σ _ _ _ hw (lv_sub hl [3, 4, 5, 6, 7, 1, 0] rfl) hf
        · replace hf := xif_neg c37 hf
          refine lv_iload_n hx hb dX4_lossOf_40 rfl (lv_at hl 4 rfl) ?_
          refine lv_iload hx hb dX4_lossOf_41 (lv_at hl 0 rfl) ?_
          refine lv_imul hx hb dX4_lossOf_43 ?_
          refine lv_goto (tgt := 53) hx hb dX4_lossOf_44 (by decide) ?_
          refine lv_iadd hx hb dX4_lossOf_53 ?_
          refine lv_topi (fun v6 ex => ?_)
          replace hf := xl_f hf v6 ex
          clear ex
          refine lv_istore (lv' := [(5, .int v6), (7, .int v3), (0, .ref (E.a 35)), (1, .int a1), (2, .int a2), (3, .int a3), (4, .int a4), (6, .int a6)]) hx hb dX4_lossOf_54 hl (by decide) rfl (fun ls hl => ?_)
          obtain ⟨v7, ex⟩ : ∃ y : Int32, y = (a6 + 1) := ⟨_, rfl⟩
          replace hf := xl_f hf v7 ex
          refine lv_iinc (v := v7) (lv' := [(6, .int v7), (5, .int v6), (7, .int v3), (0, .ref (E.a 35)), (1, .int a1), (2, .int a2), (3, .int a3), (4, .int a4)]) hx hb dX4_lossOf_56 hl (k := 7) rfl (by rw [ex]; rfl) (by decide) rfl (fun ls hl => ?_)
          clear ex
          refine lv_goto (tgt := 6) hx hb dX4_lossOf_59 (by decide) ?_
          exact ih6 a1 a2 a3 a4 v6 v7 σ _ _ _ hw (lv_sub hl [3, 4, 5, 6, 7, 1, 0] rfl) hf
  refine lv_iconst (v := 0) hx hb dX4_lossOf_0 (by decide) ?_
  refine lv_istore (lv' := [(5, .int 0), (0, .ref (E.a 35)), (1, .int p0), (2, .int p1), (3, .int p2), (4, .int p3)]) hx hb dX4_lossOf_1 hl (by decide) rfl (fun ls hl => ?_)
  refine lv_iconst (v := 0) hx hb dX4_lossOf_3 (by decide) ?_
  refine lv_istore (lv' := [(6, .int 0), (5, .int 0), (0, .ref (E.a 35)), (1, .int p0), (2, .int p1), (3, .int p2), (4, .int p3)]) hx hb dX4_lossOf_4 hl (by decide) rfl (fun ls hl => ?_)
  exact h6 xFU p0 p1 p2 p3 0 0 σ _ _ _ hw (lv_sub hl [2, 3, 4, 5, 6, 1, 0] rfl) hf

def fX4_bestFor_c16 : Nat → Int32 → Int32 → Int32 → Int32 → Int32 → Int32 → xSt → Option (Int32 × xSt)
  | 0 => fun _ _ _ _ _ _ _ => none
  | n + 1 => fun a1 a2 a3 a4 a5 a6 σ => (if 100 ≤ a6 then some (a4, σ) else (xc2 (fX4_lossOf a1 a6 a2 a3 σ) fun r3 σ4 => (if a5 ≤ r3 then (xl (a6 + 1) fun v5 => fX4_bestFor_c16 n a1 a2 a3 a4 a5 v5 σ4) else (xl (a6 + 1) fun v6 => fX4_bestFor_c16 n a1 a2 a3 a6 r3 v6 σ4))))
theorem fX4_bestFor_c16_s (n : Nat) (a1 : Int32) (a2 : Int32) (a3 : Int32) (a4 : Int32) (a5 : Int32) (a6 : Int32) (σ : xSt) : fX4_bestFor_c16 (n + 1) a1 a2 a3 a4 a5 a6 σ = ((if 100 ≤ a6 then some (a4, σ) else (xc2 (fX4_lossOf a1 a6 a2 a3 σ) fun r3 σ4 => (if a5 ≤ r3 then (xl (a6 + 1) fun v5 => fX4_bestFor_c16 n a1 a2 a3 a4 a5 v5 σ4) else (xl (a6 + 1) fun v6 => fX4_bestFor_c16 n a1 a2 a3 a6 r3 v6 σ4)))) : Option (Int32 × xSt)) := rfl
def fX4_bestFor (p0 : Int32) (p1 : Int32) (p2 : Int32) (σ : xSt) : Option (Int32 × xSt) := (xc2 (fX4_lossOf p0 0 p1 p2 σ) fun r1 σ2 => fX4_bestFor_c16 xFU p0 p1 p2 0 r1 1 σ2)
abbrev rmX4_bestFor : Room := { frames := 1, cells := 0, slots := 0, locals := 27 }
set_option maxRecDepth 100000 in
set_option maxHeartbeats 4000000 in
theorem mX4_bestFor {l : Launch} {E : xE} (hE : E.sh = shX) (p0 : Int32) (p1 : Int32) (p2 : Int32) (σ : xSt) (o1 : Int32) (o2 : xSt) (hf : fX4_bestFor p0 p1 p2 σ = some (o1, o2)) : xMi l yX4_bestFor wsX4_bestFor rmX4_bestFor E [.ref (E.a 35), .int p0, .int p1, .int p2] σ o1 o2 := by
  unfold fX4_bestFor at hf
  refine xMi_of (cc := cX4_bestFor) (maxL := 8) (ret := (some .int)) (by decide) rfl (Nat.le_of_ble_eq_true rfl) ?_
  intro p e s m args below meth c A ls ⟨hx, hb, hr, hml, hown, hts, hlk⟩ hA hG hw hl
  have hown : s.vm.findClass RX4 = some m.cls := hown
  have hl : lv_has ls 8 [(0, .ref (E.a 35)), (1, .int p0), (2, .int p1), (3, .int p2)] := hl
  have h16 : ∀ (n : Nat) (a1 : Int32) (a2 : Int32) (a3 : Int32) (a4 : Int32) (a5 : Int32) (a6 : Int32) (σ : xSt) (H : Heap) (locs : List Loc) (ls : Array Slot), xw E A s.heap s σ H locs → lv_has ls 8 [(0, .ref (E.a 35)), (1, .int a1), (2, .int a2), (3, .int a3), (4, .int a4), (5, .int a5), (6, .int a6)] → fX4_bestFor_c16 n a1 a2 a3 a4 a5 a6 σ = some (o1, o2) → W p l e rmX4_bestFor s m args below meth c H locs 0 0 (MQ below (xQi E A o1 o2) args s 0 0 A) (F0 m 16 ls []) := by
    intro n16
    induction n16 with
    | zero => intro a1 a2 a3 a4 a5 a6 σ H locs ls hw hl hf; exact nomatch hf
    | succ n16 ih16 =>
      intro a1 a2 a3 a4 a5 a6 σ H locs ls hw hl hf
      rw [fX4_bestFor_c16_s] at hf
      refine lv_iload hx hb dX4_bestFor_16 (lv_at hl 6 rfl) ?_
      refine lv_bipush (v := 100) hx hb dX4_bestFor_18 (by decide) ?_
      refine lv_icmp_ge (tgt := 55) hx hb dX4_bestFor_20 (by decide) (fun c20 => ?_) (fun c20 => ?_)
      · replace hf := xif_pos c20 hf
        refine lv_iload hx hb dX4_bestFor_55 (lv_at hl 4 rfl) ?_
        exact x_iret hx hb hr hlk hw hf dX4_bestFor_57
      · replace hf := xif_neg c20 hf
        refine lv_aload_n hx hb dX4_bestFor_23 rfl (lv_at hl 0 rfl) ?_
        refine lv_iload_n hx hb dX4_bestFor_24 rfl (lv_at hl 1 rfl) ?_
        refine lv_iload hx hb dX4_bestFor_25 (lv_at hl 6 rfl) ?_
        refine lv_iload_n hx hb dX4_bestFor_27 rfl (lv_at hl 2 rfl) ?_
        refine lv_iload_n hx hb dX4_bestFor_28 rfl (lv_at hl 3 rfl) ?_
        obtain ⟨r3, σ4, hcl, hf⟩ := xc2_f hf
        refine x_calli (va_runV (As := [.int a1, .int a6, .int a2, .int a3]) (rest := []) ⟨hx, hb, hml, hown, hts⟩ (mX4_lossOf hE a1 a6 a2 a3 σ r3 σ4 hcl H.size) (cwV 4 hts gX4_bestFor_X4_lossOf rfl rfl rfl (by decide +kernel) ⟨Nat.le_of_ble_eq_true rfl, Nat.le_of_ble_eq_true rfl⟩) (x_preV _ hw hA hG (cX35 hE) rfl) rfl rfl hl.1 rfl (lv_room (Nat.le_of_ble_eq_true rfl)) dX4_bestFor_29 ⟨Nat.le_of_ble_eq_true rfl, Nat.le_of_ble_eq_true rfl⟩) hw hA (fun H locs hw => ?_)
        clear hcl
        refine lv_istore (lv' := [(7, .int r3), (0, .ref (E.a 35)), (1, .int a1), (2, .int a2), (3, .int a3), (4, .int a4), (5, .int a5), (6, .int a6)]) hx hb dX4_bestFor_32 hl (by decide) rfl (fun ls hl => ?_)
        refine lv_iload hx hb dX4_bestFor_34 (lv_at hl 0 rfl) ?_
        refine lv_iload hx hb dX4_bestFor_36 (lv_at hl 6 rfl) ?_
        refine lv_icmp_ge (tgt := 49) hx hb dX4_bestFor_38 (by decide) (fun c38 => ?_) (fun c38 => ?_)
        · replace hf := xif_pos c38 hf
          obtain ⟨v5, ex⟩ : ∃ y : Int32, y = (a6 + 1) := ⟨_, rfl⟩
          replace hf := xl_f hf v5 ex
          refine lv_iinc (v := v5) (lv' := [(6, .int v5), (7, .int r3), (0, .ref (E.a 35)), (1, .int a1), (2, .int a2), (3, .int a3), (4, .int a4), (5, .int a5)]) hx hb dX4_bestFor_49 hl (k := 7) rfl (by rw [ex]; rfl) (by decide) rfl (fun ls hl => ?_)
          clear ex
          refine lv_goto (tgt := 16) hx hb dX4_bestFor_52 (by decide) ?_
          exact ih16 a1 a2 a3 a4 a5 v5 σ4 _ _ _ hw (lv_sub hl [2, 3, 4, 5, 6, 7, 0] rfl) hf
        · replace hf := xif_neg c38 hf
          refine lv_iload hx hb dX4_bestFor_41 (lv_at hl 7 rfl) ?_
          refine lv_istore (lv' := [(4, .int a6), (7, .int r3), (0, .ref (E.a 35)), (1, .int a1), (2, .int a2), (3, .int a3), (5, .int a5), (6, .int a6)]) hx hb dX4_bestFor_43 hl (by decide) rfl (fun ls hl => ?_)
          refine lv_iload hx hb dX4_bestFor_45 (lv_at hl 1 rfl) ?_
          refine lv_istore (lv' := [(5, .int r3), (4, .int a6), (7, .int r3), (0, .ref (E.a 35)), (1, .int a1), (2, .int a2), (3, .int a3), (6, .int a6)]) hx hb dX4_bestFor_47 hl (by decide) rfl (fun ls hl => ?_)
          obtain ⟨v6, ex⟩ : ∃ y : Int32, y = (a6 + 1) := ⟨_, rfl⟩
          replace hf := xl_f hf v6 ex
          refine lv_iinc (v := v6) (lv' := [(6, .int v6), (5, .int r3), (4, .int a6), (7, .int r3), (0, .ref (E.a 35)), (1, .int a1), (2, .int a2), (3, .int a3)]) hx hb dX4_bestFor_49 hl (k := 7) rfl (by rw [ex]; rfl) (by decide) rfl (fun ls hl => ?_)
          clear ex
          refine lv_goto (tgt := 16) hx hb dX4_bestFor_52 (by decide) ?_
          exact ih16 a1 a2 a3 a6 r3 v6 σ4 _ _ _ hw (lv_sub hl [4, 5, 6, 7, 2, 1, 0] rfl) hf
  refine lv_iconst (v := 0) hx hb dX4_bestFor_0 (by decide) ?_
  refine lv_istore (lv' := [(4, .int 0), (0, .ref (E.a 35)), (1, .int p0), (2, .int p1), (3, .int p2)]) hx hb dX4_bestFor_1 hl (by decide) rfl (fun ls hl => ?_)
  refine lv_aload_n hx hb dX4_bestFor_3 rfl (lv_at hl 1 rfl) ?_
  refine lv_iload_n hx hb dX4_bestFor_4 rfl (lv_at hl 2 rfl) ?_
  refine lv_iconst (v := 0) hx hb dX4_bestFor_5 (by decide) ?_
  refine lv_iload_n hx hb dX4_bestFor_6 rfl (lv_at hl 3 rfl) ?_
  refine lv_iload_n hx hb dX4_bestFor_7 rfl (lv_at hl 4 rfl) ?_
  obtain ⟨r1, σ2, hcl, hf⟩ := xc2_f hf
  refine x_calli (va_runV (As := [.int p0, .int 0, .int p1, .int p2]) (rest := []) ⟨hx, hb, hml, hown, hts⟩ (mX4_lossOf hE p0 0 p1 p2 σ r1 σ2 hcl s.heap.size) (cwV 4 hts gX4_bestFor_X4_lossOf rfl rfl rfl (by decide +kernel) ⟨Nat.le_of_ble_eq_true rfl, Nat.le_of_ble_eq_true rfl⟩) (x_preV _ hw hA hG (cX35 hE) rfl) rfl rfl hl.1 rfl (lv_room (Nat.le_of_ble_eq_true rfl)) dX4_bestFor_8 ⟨Nat.le_of_ble_eq_true rfl, Nat.le_of_ble_eq_true rfl⟩) hw hA (fun H locs hw => ?_)
  clear hcl
  refine lv_istore (lv' := [(5, .int r1), (4, .int 0), (0, .ref (E.a 35)), (1, .int p0), (2, .int p1), (3, .int p2)]) hx hb dX4_bestFor_11 hl (by decide) rfl (fun ls hl => ?_)
  refine lv_iconst (v := 1) hx hb dX4_bestFor_13 (by decide) ?_
  refine lv_istore (lv' := [(6, .int 1), (5, .int r1), (4, .int 0), (0, .ref (E.a 35)), (1, .int p0), (2, .int p1), (3, .int p2)]) hx hb dX4_bestFor_14 hl (by decide) rfl (fun ls hl => ?_)
  exact h16 xFU p0 p1 p2 0 r1 1 σ2 _ _ _ hw (lv_sub hl [3, 4, 5, 6, 2, 1, 0] rfl) hf

def fX4_save (p1 : Int32) (σ : xSt) : Option (Int32 × xSt) := (xcpy σ 37 6 0 1 1560 p1 6 fun σ1 => some ((p1 + 6), σ1))
abbrev rmX4_save : Room := { frames := 1, cells := 0, slots := 0, locals := 96 }
set_option maxRecDepth 100000 in
set_option maxHeartbeats 4000000 in
theorem mX4_save {l : Launch} {E : xE} (hE : E.sh = shX) (p1 : Int32) (σ : xSt) (o1 : Int32) (o2 : xSt) (hf : fX4_save p1 σ = some (o1, o2)) : xMi l yX4_save wsX4_save rmX4_save E [.ref (E.a 35), .ref (E.a 1), .int p1] σ o1 o2 := by
  unfold fX4_save at hf
  refine xMi_of (cc := cX4_save) (maxL := 3) (ret := (some .int)) (by decide) rfl (Nat.le_of_ble_eq_true rfl) ?_
  intro p e s m args below meth c A ls ⟨hx, hb, hr, hml, hown, hts, hlk⟩ hA hG hw hl
  have hown : s.vm.findClass RX4 = some m.cls := hown
  have hl : lv_has ls 3 [(0, .ref (E.a 35)), (1, .ref (E.a 1)), (2, .int p1)] := hl
  have hk15 := hts (.fieldLink RX4 15 "OvenRound$Notes" "count" "[I") (by decide +kernel)
  have hiX4 : ∀ w ∈ wsX40, w ∈ wsX4_save := by decide +kernel
  refine lv_aload_n hx hb dX4_save_0 rfl (lv_at hl 0 rfl) ?_
  refine x_getr hx hb hw (cX35 hE) (own := RX4) (ref := RX4) (C := RX4) (T := TX4) (N := 2) hts hiX4 hown rfl 1 (by decide) hk15 (fun _ h9 => h9) rfl dX4_save_1 ?_
  refine lv_iconst (v := 0) hx hb dX4_save_4 (by decide) ?_
  refine lv_aload_n hx hb dX4_save_5 rfl (lv_at hl 1 rfl) ?_
  refine lv_iload_n hx hb dX4_save_6 rfl (lv_at hl 2 rfl) ?_
  refine lv_bipush (v := 6) hx hb dX4_save_7 (by decide) ?_
  obtain ⟨hin, hf⟩ := xcpy_f hf
  refine x_copy hx hb (hml.trans hl.1.symm) hw hown (hts (.methodLink RX4 22 arraycopyName) (by decide +kernel)) (hts (.native arraycopyName) (by decide +kernel)) (hts (.static arraycopyName) (by decide +kernel)) (hts (.initialized "java/lang/System") (by decide +kernel)) (cX37 hE) (cX1 hE) hin (Nat.le_of_ble_eq_true rfl) (Nat.le_of_ble_eq_true rfl) dX4_save_9 (fun σ1 H locs ex hw => ?_)
  replace hf := hf σ1 ex
  clear ex hin
  refine lv_iload_n hx hb dX4_save_12 rfl (lv_at hl 2 rfl) ?_
  refine lv_bipush (v := 6) hx hb dX4_save_13 (by decide) ?_
  refine lv_iadd hx hb dX4_save_15 ?_
  exact x_iret hx hb hr hlk hw hf dX4_save_16

def fX4_load (p1 : Int32) (σ : xSt) : Option (Int32 × xSt) := (xcpy σ 1 1560 p1 37 6 0 6 fun σ1 => some ((p1 + 6), σ1))
abbrev rmX4_load : Room := { frames := 1, cells := 0, slots := 0, locals := 96 }
set_option maxRecDepth 100000 in
set_option maxHeartbeats 4000000 in
theorem mX4_load {l : Launch} {E : xE} (hE : E.sh = shX) (p1 : Int32) (σ : xSt) (o1 : Int32) (o2 : xSt) (hf : fX4_load p1 σ = some (o1, o2)) : xMi l yX4_load wsX4_load rmX4_load E [.ref (E.a 35), .ref (E.a 1), .int p1] σ o1 o2 := by
  unfold fX4_load at hf
  refine xMi_of (cc := cX4_load) (maxL := 3) (ret := (some .int)) (by decide) rfl (Nat.le_of_ble_eq_true rfl) ?_
  intro p e s m args below meth c A ls ⟨hx, hb, hr, hml, hown, hts, hlk⟩ hA hG hw hl
  have hown : s.vm.findClass RX4 = some m.cls := hown
  have hl : lv_has ls 3 [(0, .ref (E.a 35)), (1, .ref (E.a 1)), (2, .int p1)] := hl
  have hk15 := hts (.fieldLink RX4 15 "OvenRound$Notes" "count" "[I") (by decide +kernel)
  have hiX4 : ∀ w ∈ wsX40, w ∈ wsX4_load := by decide +kernel
  refine lv_aload_n hx hb dX4_load_0 rfl (lv_at hl 1 rfl) ?_
  refine lv_iload_n hx hb dX4_load_1 rfl (lv_at hl 2 rfl) ?_
  refine lv_aload_n hx hb dX4_load_2 rfl (lv_at hl 0 rfl) ?_
  refine x_getr hx hb hw (cX35 hE) (own := RX4) (ref := RX4) (C := RX4) (T := TX4) (N := 2) hts hiX4 hown rfl 1 (by decide) hk15 (fun _ h9 => h9) rfl dX4_load_3 ?_
  refine lv_iconst (v := 0) hx hb dX4_load_6 (by decide) ?_
  refine lv_bipush (v := 6) hx hb dX4_load_7 (by decide) ?_
  obtain ⟨hin, hf⟩ := xcpy_f hf
  refine x_copy hx hb (hml.trans hl.1.symm) hw hown (hts (.methodLink RX4 22 arraycopyName) (by decide +kernel)) (hts (.native arraycopyName) (by decide +kernel)) (hts (.static arraycopyName) (by decide +kernel)) (hts (.initialized "java/lang/System") (by decide +kernel)) (cX1 hE) (cX37 hE) hin (Nat.le_of_ble_eq_true rfl) (Nat.le_of_ble_eq_true rfl) dX4_load_9 (fun σ1 H locs ex hw => ?_)
  replace hf := hf σ1 ex
  clear ex hin
  refine lv_iload_n hx hb dX4_load_12 rfl (lv_at hl 2 rfl) ?_
  refine lv_bipush (v := 6) hx hb dX4_load_13 (by decide) ?_
  refine lv_iadd hx hb dX4_load_15 ?_
  exact x_iret hx hb hr hlk hw hf dX4_load_16

def fX5_pointsOfATick (σ : xSt) : Option (Int32 × xSt) := (xc2 (fX11_isWithin (σ 20 1) 0 (6 - 1) σ) fun r1 σ2 => (if r1 = 0 then some (0, σ2) else (xrs xPts 6 (σ2 20 1) fun v3 => some (v3, σ2))))
abbrev rmX5_pointsOfATick : Room := { frames := 1, cells := 0, slots := 0, locals := 22 }
set_option maxRecDepth 100000 in
set_option maxHeartbeats 4000000 in
theorem mX5_pointsOfATick {l : Launch} {E : xE} (hE : E.sh = shX) (σ : xSt) (o1 : Int32) (o2 : xSt) (hf : fX5_pointsOfATick σ = some (o1, o2)) : xMi l yX5_pointsOfATick wsX5_pointsOfATick rmX5_pointsOfATick E [.ref (E.a 20)] σ o1 o2 := by
  unfold fX5_pointsOfATick at hf
  refine xMi_of (cc := cX5_pointsOfATick) (maxL := 1) (ret := (some .int)) (by decide) rfl (Nat.le_of_ble_eq_true rfl) ?_
  intro p e s m args below meth c A ls ⟨hx, hb, hr, hml, hown, hts, hlk⟩ hA hG hw hl
  have hown : s.vm.findClass RX5 = some m.cls := hown
  have hl : lv_has ls 1 [(0, .ref (E.a 20))] := hl
  have hk7 := hts (.fieldLink RX5 7 "OvenRound$Oven" "warmth" "I") (by decide +kernel)
  have hiX5 : ∀ w ∈ wsX50, w ∈ wsX5_pointsOfATick := by decide +kernel
  refine lv_aload_n hx hb dX5_pointsOfATick_0 rfl (lv_at hl 0 rfl) ?_
  refine x_geti hx hb hw (cX20 hE) (own := RX5) (ref := RX5) (C := RX5) (T := TX5) (N := 5) hts hiX5 hown rfl 1 (by decide) hk7 (fun _ h9 => h9) rfl dX5_pointsOfATick_1 ?_
  refine lv_iconst (v := 0) hx hb dX5_pointsOfATick_4 (by decide) ?_
  refine va_gets hx hb hG.2.1.1 hw.2.2.2 hown (hts (.fieldLink RX5 22 "OvenRound$Oven" "POINTS_OF_WARMTH" "[I") (by decide +kernel)) (fun _ h9 => h9) dX5_pointsOfATick_5 ?_
  refine va_tlen hx hb hG.2.1.2 hw.2.2.2 (v := 6) (by decide) dX5_pointsOfATick_8 ?_
  refine lv_iconst (v := 1) hx hb dX5_pointsOfATick_9 (by decide) ?_
  refine lv_isub hx hb dX5_pointsOfATick_10 ?_
  obtain ⟨r1, σ2, hcl, hf⟩ := xc2_f hf
  refine x_calli (va_runSN (As := [.int (σ 20 1), .int 0, .int (6 - 1)]) (rest := []) ⟨hx, hb, hml, hown, hts⟩ (mX11_isWithin hE (σ 20 1) 0 (6 - 1) σ r1 σ2 hcl s.heap.size) ⟨va_cnB 3 hts gX5_pointsOfATick_X11_isWithin_n26 rfl rfl rfl (hG.1 (.methodLinkNest RX5 26 yX11_isWithin RX11) (by decide +kernel)) (hts (.initialized RX11) (by decide +kernel)) (by decide +kernel) ⟨Nat.le_of_ble_eq_true rfl, Nat.le_of_ble_eq_true rfl⟩, hts (.static yX11_isWithin) (by decide +kernel), trivial⟩ (x_preS _ hw hA hG) rfl rfl hl.1 rfl (lv_room (Nat.le_of_ble_eq_true rfl)) dX5_pointsOfATick_11 ⟨Nat.le_of_ble_eq_true rfl, Nat.le_of_ble_eq_true rfl⟩) hw hA (fun H locs hw => ?_)
  clear hcl
  refine lv_if_eq (tgt := 28) hx hb dX5_pointsOfATick_14 (by decide) (fun c14 => ?_) (fun c14 => ?_)
  · replace hf := xif_pos c14 hf
    refine lv_iconst (v := 0) hx hb dX5_pointsOfATick_28 (by decide) ?_
    exact x_iret hx hb hr hlk hw hf dX5_pointsOfATick_29
  · replace hf := xif_neg c14 hf
    refine va_gets hx hb hG.2.1.1 hw.2.2.2 hown (hts (.fieldLink RX5 22 "OvenRound$Oven" "POINTS_OF_WARMTH" "[I") (by decide +kernel)) (fun _ h9 => h9) dX5_pointsOfATick_17 ?_
    refine lv_aload_n hx hb dX5_pointsOfATick_20 rfl (lv_at hl 0 rfl) ?_
    refine x_geti hx hb hw (cX20 hE) (own := RX5) (ref := RX5) (C := RX5) (T := TX5) (N := 5) hts hiX5 hown rfl 1 (by decide) hk7 (fun _ h9 => h9) rfl dX5_pointsOfATick_21 ?_
    obtain ⟨hin, hf⟩ := xrs_f hf
    refine va_ti hx hb hG.2.1.2 hw.2.2.2 hin rfl dX5_pointsOfATick_24 ?_
    refine lv_topi (fun v3 ex => ?_)
    replace hf := hf v3 ex
    clear ex hin
    refine lv_goto (tgt := 29) hx hb dX5_pointsOfATick_25 (by decide) ?_
    exact x_iret hx hb hr hlk hw hf dX5_pointsOfATick_29

def fX5_letPass (p0 : Int32) (σ : xSt) : Option xSt := (xp σ 20 0 ((σ 20 0) + p0) fun σ1 => (xl (p0 * 5) fun v2 => (xl (if ((σ1 20 4) - (σ1 20 3)) < v2 then ((σ1 20 4) - (σ1 20 3)) else v2) fun v3 => (xl (if (-v2) < v3 then v3 else (-v2)) fun v4 => (xp σ1 20 3 ((σ1 20 3) + v4) fun σ5 => some σ5)))))
abbrev rmX5_letPass : Room := { frames := 1, cells := 0, slots := 0, locals := 32 }
set_option maxRecDepth 100000 in
set_option maxHeartbeats 4000000 in
theorem mX5_letPass {l : Launch} {E : xE} (hE : E.sh = shX) (p0 : Int32) (σ : xSt) (o1 : xSt) (hf : fX5_letPass p0 σ = some o1) : xMv l yX5_letPass wsX5_letPass rmX5_letPass E [.ref (E.a 20), .int p0] σ o1 := by
  unfold fX5_letPass at hf
  refine xMv_of (cc := cX5_letPass) (maxL := 3) (ret := none) (by decide) rfl (Nat.le_of_ble_eq_true rfl) ?_
  intro p e s m args below meth c A ls ⟨hx, hb, hr, hml, hown, hts, hlk⟩ hA hG hw hl
  have hown : s.vm.findClass RX5 = some m.cls := hown
  have hl : lv_has ls 3 [(0, .ref (E.a 20)), (1, .int p0)] := hl
  have hk32 := hts (.fieldLink RX5 32 "OvenRound$Oven" "tick" "I") (by decide +kernel)
  have hiX5 : ∀ w ∈ wsX50, w ∈ wsX5_letPass := by decide +kernel
  have hk16 := hts (.fieldLink RX5 16 "OvenRound$Oven" "heat" "I") (by decide +kernel)
  have hk19 := hts (.fieldLink RX5 19 "OvenRound$Oven" "setHeat" "I") (by decide +kernel)
  refine lv_aload_n hx hb dX5_letPass_0 rfl (lv_at hl 0 rfl) ?_
  refine lv_dup hx hb dX5_letPass_1 rfl ?_
  refine x_geti hx hb hw (cX20 hE) (own := RX5) (ref := RX5) (C := RX5) (T := TX5) (N := 5) hts hiX5 hown rfl 0 (by decide) hk32 (fun _ h9 => h9) rfl dX5_letPass_2 ?_
  refine lv_iload_n hx hb dX5_letPass_5 rfl (lv_at hl 1 rfl) ?_
  refine lv_iadd hx hb dX5_letPass_6 ?_
  refine x_puti hx hb hw (cX20 hE) (own := RX5) (ref := RX5) (C := RX5) (T := TX5) (N := 5) hts hiX5 tyX5 tyX5_ok nmX5 hown rfl 0 (by decide) hk32 (fun _ h9 => h9) rfl (by decide +kernel) rfl dX5_letPass_7 (fun σ1 H locs ex hw => ?_)
  replace hf := xp_f hf σ1 ex
  clear ex
  refine lv_iload_n hx hb dX5_letPass_10 rfl (lv_at hl 1 rfl) ?_
  refine lv_iconst (v := 5) hx hb dX5_letPass_11 (by decide) ?_
  refine lv_imul hx hb dX5_letPass_12 ?_
  refine lv_topi (fun v2 ex => ?_)
  replace hf := xl_f hf v2 ex
  clear ex
  refine lv_istore_n (lv' := [(2, .int v2), (0, .ref (E.a 20)), (1, .int p0)]) hx hb dX5_letPass_13 rfl hl (by decide) rfl (fun ls hl => ?_)
  refine lv_aload_n hx hb dX5_letPass_14 rfl (lv_at hl 1 rfl) ?_
  refine lv_dup hx hb dX5_letPass_15 rfl ?_
  refine x_geti hx hb hw (cX20 hE) (own := RX5) (ref := RX5) (C := RX5) (T := TX5) (N := 5) hts hiX5 hown rfl 3 (by decide) hk16 (fun _ h9 => h9) rfl dX5_letPass_16 ?_
  refine lv_iload_n hx hb dX5_letPass_19 rfl (lv_at hl 0 rfl) ?_
  refine lv_ineg hx hb dX5_letPass_20 ?_
  refine lv_iload_n hx hb dX5_letPass_21 rfl (lv_at hl 0 rfl) ?_
  refine lv_aload_n hx hb dX5_letPass_22 rfl (lv_at hl 1 rfl) ?_
  refine x_geti hx hb hw (cX20 hE) (own := RX5) (ref := RX5) (C := RX5) (T := TX5) (N := 5) hts hiX5 hown rfl 4 (by decide) hk19 (fun _ h9 => h9) rfl dX5_letPass_23 ?_
  refine lv_aload_n hx hb dX5_letPass_26 rfl (lv_at hl 1 rfl) ?_
  refine x_geti hx hb hw (cX20 hE) (own := RX5) (ref := RX5) (C := RX5) (T := TX5) (N := 5) hts hiX5 hown rfl 3 (by decide) hk16 (fun _ h9 => h9) rfl dX5_letPass_27 ?_
  refine lv_isub hx hb dX5_letPass_30 ?_
  refine va_mmin hx hb (hml.trans hl.1.symm) hown (hts (.methodLink RX5 35 Lib.Math.min.name) (by decide +kernel)) (hts (.static Lib.Math.min.name) (by decide +kernel)) (hts (.initialized "java/lang/Math") (by decide +kernel)) (hts (.code Lib.Math.min.name Lib.Math.min.code 2 (some .int)) (by decide +kernel)) (Nat.le_of_ble_eq_true rfl) (Nat.le_of_ble_eq_true rfl) (Nat.le_of_ble_eq_true rfl) (Nat.le_of_ble_eq_true rfl) dX5_letPass_31 ?_
  refine lv_topi (fun v3 ex => ?_)
  replace hf := xl_f hf v3 ex
  clear ex
  refine va_mmax hx hb (hml.trans hl.1.symm) hown (hts (.methodLink RX5 41 Lib.Math.max.name) (by decide +kernel)) (hts (.static Lib.Math.max.name) (by decide +kernel)) (hts (.initialized "java/lang/Math") (by decide +kernel)) (hts (.code Lib.Math.max.name Lib.Math.max.code 2 (some .int)) (by decide +kernel)) (Nat.le_of_ble_eq_true rfl) (Nat.le_of_ble_eq_true rfl) (Nat.le_of_ble_eq_true rfl) (Nat.le_of_ble_eq_true rfl) dX5_letPass_34 ?_
  refine lv_topi (fun v4 ex => ?_)
  replace hf := xl_f hf v4 ex
  clear ex
  refine lv_iadd hx hb dX5_letPass_37 ?_
  refine x_puti hx hb hw (cX20 hE) (own := RX5) (ref := RX5) (C := RX5) (T := TX5) (N := 5) hts hiX5 tyX5 tyX5_ok nmX5 hown rfl 3 (by decide) hk16 (fun _ h9 => h9) rfl (by decide +kernel) rfl dX5_letPass_38 (fun σ5 H locs ex hw => ?_)
  replace hf := xp_f hf σ5 ex
  clear ex
  exact x_vret hx hb hr hlk hw hf dX5_letPass_41
