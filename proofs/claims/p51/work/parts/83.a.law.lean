def fX12_next (p0 : Int32) (σ : xSt) : Option (Int32 × xSt) := (xp σ 53 0 (((σ 53 0) * 1103515245) + 12345) fun σ1 => (xnz p0 (some ((((Int32.toUInt32 (σ1 53 0) >>> (Int32.toUInt32 16 &&& Int32.toUInt32 31)).toInt32) - ((Int32.toUInt32 (σ1 53 0) >>> (Int32.toUInt32 16 &&& Int32.toUInt32 31)).toInt32) / p0 * p0), σ1))))
abbrev rmX12_next : Room := { frames := 0, cells := 0, slots := 0, locals := 0 }
set_option maxRecDepth 100000 in
set_option maxHeartbeats 8000000 in
theorem mX12_next {l : Launch} (hl0 : l.stackTraces = false) {E : xE} (hE : xLE E) (p0 : Int32) (σ : xSt) (o1 : Int32) (o2 : xSt) (hf : fX12_next p0 σ = some (o1, o2)) : xLi l yX12_next wsX12_next rmX12_next E [.ref (E.a 53), .int p0] σ o1 o2 0 0 := by
  unfold fX12_next at hf
  refine xLi_of (cc := cX12_next) (maxL := 2) (ret := (some .int)) (by decide) rfl (Nat.le_of_ble_eq_true rfl) ?_
  intro p e s m args below meth c A ls ⟨hx, hb, hr, hml, hown, hts, hlk⟩ hA hGL hw hl
  have hG := hGL.1
  have hown : s.vm.findClass RX12 = some m.cls := hown
  have hl : lv_has ls 2 [(0, .ref (E.a 53)), (1, .int p0)] := hl
  have hk7 := hts (.fieldLink RX12 7 "OvenRoundLaw$Draws" "x" "I") (by decide +kernel)
  have hiX12 : ∀ w ∈ wsX120, w ∈ wsX12_next := by decide +kernel
  refine lv_aload_n hx hb dX12_next_0 rfl (lv_at hl 0 rfl) ?_
  refine lv_aload_n hx hb dX12_next_1 rfl (lv_at hl 0 rfl) ?_
  refine x_geti hx hb hw (cL53 hE) (own := RX12) (ref := RX12) (C := RX12) (T := TX12) (N := 1) hts hiX12 hown rfl 0 (by decide) hk7 (fun _ h9 => h9) rfl dX12_next_2 ?_
  refine lv_ldc hx hb hown (hts (.constant RX12 14 (1103515245)) (by decide +kernel)) dX12_next_5 ?_
  refine lv_imul hx hb dX12_next_7 ?_
  refine lv_sipush (v := 12345) hx hb dX12_next_8 (by decide) ?_
  refine lv_iadd hx hb dX12_next_11 ?_
  refine x_puti hx hb hw (cL53 hE) (own := RX12) (ref := RX12) (C := RX12) (T := TX12) (N := 1) hts hiX12 tyX12 tyX12_ok nmX12 hown rfl 0 (by decide) hk7 (fun _ h9 => h9) rfl (by decide +kernel) rfl dX12_next_12 (fun σ1 H locs ex hw => ?_)
  replace hf := xp_f hf σ1 ex
  clear ex
  refine lv_aload_n hx hb dX12_next_15 rfl (lv_at hl 0 rfl) ?_
  refine x_geti hx hb hw (cL53 hE) (own := RX12) (ref := RX12) (C := RX12) (T := TX12) (N := 1) hts hiX12 hown rfl 0 (by decide) hk7 (fun _ h9 => h9) rfl dX12_next_16 ?_
  refine lv_bipush (v := 16) hx hb dX12_next_19 (by decide) ?_
  refine lv_iushr hx hb dX12_next_21 rfl ?_
  refine lv_iload_n hx hb dX12_next_22 rfl (lv_at hl 1 rfl) ?_
  obtain ⟨hne, hf⟩ := xnz_e hf
  refine lv_irem hx hb dX12_next_23 hne ?_
  exact x_Liret hx hb hr hlk hw hf (show 0 ≤ 0 by omega) (show 0 ≤ 0 by omega) dX12_next_24

def fL_isRow_c30 (k7 : (Int32 → Int32 → Int32 → Int32 → xSt → Option (Int32 × xSt))) (a1 : Int32) (a2 : Int32) (a3 : Int32) (a4 : Int32) (σ : xSt) : Option (Int32 × xSt) := (xl (a3 / 10) fun v2 => (xl (a4 + 1) fun v3 => k7 a1 a2 v2 v3 σ))
def fL_isRow_c7 : Nat → Int32 → Int32 → Int32 → Int32 → xSt → Option (Int32 × xSt)
  | 0 => fun _ _ _ _ _ => none
  | n + 1 => fun a1 a2 a3 a4 σ => (if a1 ≤ a4 then (if a2 = (((1 : Int32) <<< (a1 &&& 31)) - 1) then some (1, σ) else some (0, σ)) else (if a1 ≤ (a3 - a3 / 10 * 10) then fL_isRow_c30 (fL_isRow_c7 n) a1 a2 a3 a4 σ else (xl (a2 ||| ((1 : Int32) <<< ((a3 - a3 / 10 * 10) &&& 31))) fun v1 => fL_isRow_c30 (fL_isRow_c7 n) a1 v1 a3 a4 σ)))
theorem fL_isRow_c7_s (n : Nat) (a1 : Int32) (a2 : Int32) (a3 : Int32) (a4 : Int32) (σ : xSt) : fL_isRow_c7 (n + 1) a1 a2 a3 a4 σ = ((if a1 ≤ a4 then (if a2 = (((1 : Int32) <<< (a1 &&& 31)) - 1) then some (1, σ) else some (0, σ)) else (if a1 ≤ (a3 - a3 / 10 * 10) then fL_isRow_c30 (fL_isRow_c7 n) a1 a2 a3 a4 σ else (xl (a2 ||| ((1 : Int32) <<< ((a3 - a3 / 10 * 10) &&& 31))) fun v1 => fL_isRow_c30 (fL_isRow_c7 n) a1 v1 a3 a4 σ))) : Option (Int32 × xSt)) := rfl
def fL_isRow (p0 : Int32) (p1 : Int32) (σ : xSt) : Option (Int32 × xSt) := fL_isRow_c7 xFU p1 0 p0 0 σ
abbrev rmL_isRow : Room := { frames := 0, cells := 0, slots := 0, locals := 0 }
set_option maxRecDepth 100000 in
set_option maxHeartbeats 8000000 in
theorem mL_isRow {l : Launch} (hl0 : l.stackTraces = false) {E : xE} (hE : xLE E) (p0 : Int32) (p1 : Int32) (σ : xSt) (o1 : Int32) (o2 : xSt) (hf : fL_isRow p0 p1 σ = some (o1, o2)) : xLi l yL_isRow wsL_isRow rmL_isRow E [.int p0, .int p1] σ o1 o2 0 0 := by
  unfold fL_isRow at hf
  refine xLi_of (cc := cL_isRow) (maxL := 5) (ret := (some .boolean)) (by decide) rfl (Nat.le_of_ble_eq_true rfl) ?_
  intro p e s m args below meth c A ls ⟨hx, hb, hr, hml, hown, hts, hlk⟩ hA hGL hw hl
  have hG := hGL.1
  have hown : s.vm.findClass RL = some m.cls := hown
  have hl : lv_has ls 5 [(0, .int p0), (1, .int p1)] := hl
  have h7 : ∀ (n : Nat) (a1 : Int32) (a2 : Int32) (a3 : Int32) (a4 : Int32) (σ : xSt) (H : Heap) (locs : List Loc) (ls : Array Slot) (nc ns : Nat), xw E A s.heap s σ H locs → lv_has ls 5 [(1, .int a1), (2, .int a2), (3, .int a3), (4, .int a4)] → fL_isRow_c7 n a1 a2 a3 a4 σ = some (o1, o2) → nc + (0) ≤ 0 → ns + (0) ≤ 0 → W p l e rmL_isRow s m args below meth c H locs nc ns (MQ below (xQi E A o1 o2) args s 0 0 A) (F0 m 7 ls []) := by
    intro n7
    induction n7 with
    | zero => intro a1 a2 a3 a4 σ H locs ls nc ns hw hl hf hnc hns; exact nomatch hf
    | succ n7 ih7 =>
      have h30 : ∀ (a1 : Int32) (a2 : Int32) (a3 : Int32) (a4 : Int32) (σ : xSt) (H : Heap) (locs : List Loc) (ls : Array Slot) (nc ns : Nat), xw E A s.heap s σ H locs → lv_has ls 5 [(1, .int a1), (2, .int a2), (3, .int a3), (4, .int a4)] → fL_isRow_c30 (fL_isRow_c7 n7) a1 a2 a3 a4 σ = some (o1, o2) → nc + (0) ≤ 0 → ns + (0) ≤ 0 → W p l e rmL_isRow s m args below meth c H locs nc ns (MQ below (xQi E A o1 o2) args s 0 0 A) (F0 m 30 ls []) := by
        intro a1 a2 a3 a4 σ H locs ls nc ns hw hl hf hnc hns
        unfold fL_isRow_c30 at hf
        refine lv_iload_n hx hb dL_isRow_30 rfl (lv_at hl 2 rfl) ?_
        refine lv_bipush (v := 10) hx hb dL_isRow_31 (by decide) ?_
        refine lv_idiv hx hb dL_isRow_33 (by decide) ?_
        refine lv_topi (fun v2 ex => ?_)
        replace hf := xl_f hf v2 ex
        clear ex
        refine lv_istore_n (lv' := [(3, .int v2), (1, .int a1), (2, .int a2), (4, .int a4)]) hx hb dL_isRow_34 rfl hl (by decide) rfl (fun ls hl => ?_)
        obtain ⟨v3, ex⟩ : ∃ y : Int32, y = (a4 + 1) := ⟨_, rfl⟩
        replace hf := xl_f hf v3 ex
        refine lv_iinc (v := v3) (lv' := [(4, .int v3), (3, .int v2), (1, .int a1), (2, .int a2)]) hx hb dL_isRow_35 hl (k := 3) rfl (by rw [ex]; rfl) (by decide) rfl (fun ls hl => ?_)
        clear ex
        refine lv_goto (tgt := 7) hx hb dL_isRow_38 (by decide) ?_
        exact ih7 a1 a2 v2 v3 σ _ _ _ nc ns hw (lv_sub hl [2, 3, 1, 0] rfl) hf (by omega) (by omega)
      intro a1 a2 a3 a4 σ H locs ls nc ns hw hl hf hnc hns
      rw [fL_isRow_c7_s] at hf
      refine lv_iload hx hb dL_isRow_7 (lv_at hl 3 rfl) ?_
      refine lv_iload_n hx hb dL_isRow_9 rfl (lv_at hl 0 rfl) ?_
      refine lv_icmp_ge (tgt := 41) hx hb dL_isRow_10 (by decide) (fun c10 => ?_) (fun c10 => ?_)
      · replace hf := xif_pos c10 hf
        refine lv_iload_n hx hb dL_isRow_41 rfl (lv_at hl 1 rfl) ?_
        refine lv_iconst (v := 1) hx hb dL_isRow_42 (by decide) ?_
        refine lv_iload_n hx hb dL_isRow_43 rfl (lv_at hl 0 rfl) ?_
        refine lv_ishl hx hb dL_isRow_44 ?_
        refine lv_iconst (v := 1) hx hb dL_isRow_45 (by decide) ?_
        refine lv_isub hx hb dL_isRow_46 ?_
        refine lv_icmp_ne (tgt := 54) hx hb dL_isRow_47 (by decide) (fun c47 => ?_) (fun c47 => ?_)
        · replace hf := xif_neg c47 hf
          refine lv_iconst (v := 0) hx hb dL_isRow_54 (by decide) ?_
          exact x_Lzretc hx hb hr hlk hw (by decide) hf (show nc ≤ 0 by omega) (show ns ≤ 0 by omega) dL_isRow_55
        · replace hf := xif_pos c47 hf
          refine lv_iconst (v := 1) hx hb dL_isRow_50 (by decide) ?_
          refine lv_goto (tgt := 55) hx hb dL_isRow_51 (by decide) ?_
          exact x_Lzretc hx hb hr hlk hw (by decide) hf (show nc ≤ 0 by omega) (show ns ≤ 0 by omega) dL_isRow_55
      · replace hf := xif_neg c10 hf
        refine lv_iload_n hx hb dL_isRow_13 rfl (lv_at hl 2 rfl) ?_
        refine lv_bipush (v := 10) hx hb dL_isRow_14 (by decide) ?_
        refine lv_irem hx hb dL_isRow_16 (by decide) ?_
        refine lv_iload_n hx hb dL_isRow_17 rfl (lv_at hl 0 rfl) ?_
        refine lv_icmp_ge (tgt := 30) hx hb dL_isRow_18 (by decide) (fun c18 => ?_) (fun c18 => ?_)
        · replace hf := xif_pos c18 hf
          exact h30 a1 a2 a3 a4 σ _ _ _ nc ns hw (lv_sub hl [0, 1, 2, 3] rfl) hf (by omega) (by omega)
        · replace hf := xif_neg c18 hf
          refine lv_iload_n hx hb dL_isRow_21 rfl (lv_at hl 1 rfl) ?_
          refine lv_iconst (v := 1) hx hb dL_isRow_22 (by decide) ?_
          refine lv_iload_n hx hb dL_isRow_23 rfl (lv_at hl 2 rfl) ?_
          refine lv_bipush (v := 10) hx hb dL_isRow_24 (by decide) ?_
          refine lv_irem hx hb dL_isRow_26 (by decide) ?_
          refine lv_ishl hx hb dL_isRow_27 ?_
          refine lv_ior hx hb dL_isRow_28 ?_
          refine lv_topi (fun v1 ex => ?_)
          replace hf := xl_f hf v1 ex
          clear ex
          refine lv_istore_n (lv' := [(2, .int v1), (1, .int a1), (3, .int a3), (4, .int a4)]) hx hb dL_isRow_29 rfl hl (by decide) rfl (fun ls hl => ?_)
          exact h30 a1 v1 a3 a4 σ _ _ _ nc ns hw (lv_sub hl [1, 0, 2, 3] rfl) hf (by omega) (by omega)
  refine lv_iconst (v := 0) hx hb dL_isRow_0 (by decide) ?_
  refine lv_istore_n (lv' := [(2, .int 0), (0, .int p0), (1, .int p1)]) hx hb dL_isRow_1 rfl hl (by decide) rfl (fun ls hl => ?_)
  refine lv_iload_n hx hb dL_isRow_2 rfl (lv_at hl 1 rfl) ?_
  refine lv_istore_n (lv' := [(3, .int p0), (2, .int 0), (0, .int p0), (1, .int p1)]) hx hb dL_isRow_3 rfl hl (by decide) rfl (fun ls hl => ?_)
  refine lv_iconst (v := 0) hx hb dL_isRow_4 (by decide) ?_
  refine lv_istore (lv' := [(4, .int 0), (3, .int p0), (2, .int 0), (0, .int p0), (1, .int p1)]) hx hb dL_isRow_5 hl (by decide) rfl (fun ls hl => ?_)
  exact h7 xFU p1 0 p0 0 σ _ _ _ 0 0 hw (lv_sub hl [4, 2, 1, 0] rfl) hf (by omega) (by omega)

def fL_price_c5 : Nat → Int32 → Int32 → Int32 → Int32 → xSt → Option (Int32 × xSt)
  | 0 => fun _ _ _ _ _ => none
  | n + 1 => fun a1 a2 a3 a4 σ => (if 4 ≤ a4 then some (a3, σ) else (xr σ 57 4 a1 fun v1 => (if ((v1 >>> (a4 &&& 31)) &&& 1) = 1 then (xr σ 57 4 a2 fun v3 => (if ((v3 >>> (a4 &&& 31)) &&& 1) = 0 then (xrs xPri 4 a4 fun v5 => (xl (a3 + v5) fun v6 => (xl (a4 + 1) fun v7 => fL_price_c5 n a1 a2 v6 v7 σ))) else (xl (a4 + 1) fun v4 => fL_price_c5 n a1 a2 a3 v4 σ))) else (xl (a4 + 1) fun v2 => fL_price_c5 n a1 a2 a3 v2 σ))))
theorem fL_price_c5_s (n : Nat) (a1 : Int32) (a2 : Int32) (a3 : Int32) (a4 : Int32) (σ : xSt) : fL_price_c5 (n + 1) a1 a2 a3 a4 σ = ((if 4 ≤ a4 then some (a3, σ) else (xr σ 57 4 a1 fun v1 => (if ((v1 >>> (a4 &&& 31)) &&& 1) = 1 then (xr σ 57 4 a2 fun v3 => (if ((v3 >>> (a4 &&& 31)) &&& 1) = 0 then (xrs xPri 4 a4 fun v5 => (xl (a3 + v5) fun v6 => (xl (a4 + 1) fun v7 => fL_price_c5 n a1 a2 v6 v7 σ))) else (xl (a4 + 1) fun v4 => fL_price_c5 n a1 a2 a3 v4 σ))) else (xl (a4 + 1) fun v2 => fL_price_c5 n a1 a2 a3 v2 σ)))) : Option (Int32 × xSt)) := rfl
def fL_price (p0 : Int32) (p1 : Int32) (σ : xSt) : Option (Int32 × xSt) := fL_price_c5 xFU p0 p1 0 0 σ
abbrev rmL_price : Room := { frames := 0, cells := 0, slots := 0, locals := 0 }
set_option maxRecDepth 100000 in
set_option maxHeartbeats 8000000 in
theorem mL_price {l : Launch} (hl0 : l.stackTraces = false) {E : xE} (hE : xLE E) (p0 : Int32) (p1 : Int32) (σ : xSt) (o1 : Int32) (o2 : xSt) (hf : fL_price p0 p1 σ = some (o1, o2)) : xLi l yL_price wsL_price rmL_price E [.ref (E.a 52), .int p0, .int p1] σ o1 o2 0 0 := by
  unfold fL_price at hf
  refine xLi_of (cc := cL_price) (maxL := 5) (ret := (some .int)) (by decide) rfl (Nat.le_of_ble_eq_true rfl) ?_
  intro p e s m args below meth c A ls ⟨hx, hb, hr, hml, hown, hts, hlk⟩ hA hGL hw hl
  have hG := hGL.1
  have hown : s.vm.findClass RL = some m.cls := hown
  have hl : lv_has ls 5 [(0, .ref (E.a 52)), (1, .int p0), (2, .int p1)] := hl
  have hk26 := hts (.fieldLink RL 26 "OvenRoundLaw" "allergens" "[I") (by decide +kernel)
  have hiL : ∀ w ∈ wsL0, w ∈ wsL_price := by decide +kernel
  have h5 : ∀ (n : Nat) (a1 : Int32) (a2 : Int32) (a3 : Int32) (a4 : Int32) (σ : xSt) (H : Heap) (locs : List Loc) (ls : Array Slot) (nc ns : Nat), xw E A s.heap s σ H locs → lv_has ls 5 [(0, .ref (E.a 52)), (1, .int a1), (2, .int a2), (3, .int a3), (4, .int a4)] → fL_price_c5 n a1 a2 a3 a4 σ = some (o1, o2) → nc + (0) ≤ 0 → ns + (0) ≤ 0 → W p l e rmL_price s m args below meth c H locs nc ns (MQ below (xQi E A o1 o2) args s 0 0 A) (F0 m 5 ls []) := by
    intro n5
    induction n5 with
    | zero => intro a1 a2 a3 a4 σ H locs ls nc ns hw hl hf hnc hns; exact nomatch hf
    | succ n5 ih5 =>
      intro a1 a2 a3 a4 σ H locs ls nc ns hw hl hf hnc hns
      rw [fL_price_c5_s] at hf
      refine lv_iload hx hb dL_price_5 (lv_at hl 4 rfl) ?_
      refine lv_iconst (v := 4) hx hb dL_price_7 (by decide) ?_
      refine lv_icmp_ge (tgt := 55) hx hb dL_price_8 (by decide) (fun c8 => ?_) (fun c8 => ?_)
      · replace hf := xif_pos c8 hf
        refine lv_iload_n hx hb dL_price_55 rfl (lv_at hl 3 rfl) ?_
        exact x_Liret hx hb hr hlk hw hf (show nc ≤ 0 by omega) (show ns ≤ 0 by omega) dL_price_56
      · replace hf := xif_neg c8 hf
        refine lv_aload_n hx hb dL_price_11 rfl (lv_at hl 0 rfl) ?_
        refine x_getr hx hb hw (cL52 hE) (own := RL) (ref := RL) (C := RL) (T := TL) (N := 10) hts hiL hown rfl 9 (by decide) hk26 (fun _ h9 => h9) rfl dL_price_12 ?_
        refine lv_iload_n hx hb dL_price_15 rfl (lv_at hl 1 rfl) ?_
        obtain ⟨hin, hf⟩ := xr_f hf
        refine x_iald hx hb hw (cL57 hE) hin dL_price_16 ?_
        refine lv_topi (fun v1 ex => ?_)
        replace hf := hf v1 ex
        clear ex hin
        refine lv_iload hx hb dL_price_17 (lv_at hl 4 rfl) ?_
        refine lv_ishr hx hb dL_price_19 ?_
        refine lv_iconst (v := 1) hx hb dL_price_20 (by decide) ?_
        refine lv_iand hx hb dL_price_21 ?_
        refine lv_iconst (v := 1) hx hb dL_price_22 (by decide) ?_
        refine lv_icmp_ne (tgt := 49) hx hb dL_price_23 (by decide) (fun c23 => ?_) (fun c23 => ?_)
        · replace hf := xif_neg c23 hf
          obtain ⟨v2, ex⟩ : ∃ y : Int32, y = (a4 + 1) := ⟨_, rfl⟩
          replace hf := xl_f hf v2 ex
          refine lv_iinc (v := v2) (lv' := [(4, .int v2), (0, .ref (E.a 52)), (1, .int a1), (2, .int a2), (3, .int a3)]) hx hb dL_price_49 hl (k := 4) rfl (by rw [ex]; rfl) (by decide) rfl (fun ls hl => ?_)
          clear ex
          refine lv_goto (tgt := 5) hx hb dL_price_52 (by decide) ?_
          exact ih5 a1 a2 a3 v2 σ _ _ _ nc ns hw (lv_sub hl [1, 2, 3, 4, 0] rfl) hf (by omega) (by omega)
        · replace hf := xif_pos c23 hf
          refine lv_aload_n hx hb dL_price_26 rfl (lv_at hl 0 rfl) ?_
          refine x_getr hx hb hw (cL52 hE) (own := RL) (ref := RL) (C := RL) (T := TL) (N := 10) hts hiL hown rfl 9 (by decide) hk26 (fun _ h9 => h9) rfl dL_price_27 ?_
          refine lv_iload_n hx hb dL_price_30 rfl (lv_at hl 2 rfl) ?_
          obtain ⟨hin, hf⟩ := xr_f hf
          refine x_iald hx hb hw (cL57 hE) hin dL_price_31 ?_
          refine lv_topi (fun v3 ex => ?_)
          replace hf := hf v3 ex
          clear ex hin
          refine lv_iload hx hb dL_price_32 (lv_at hl 4 rfl) ?_
          refine lv_ishr hx hb dL_price_34 ?_
          refine lv_iconst (v := 1) hx hb dL_price_35 (by decide) ?_
          refine lv_iand hx hb dL_price_36 ?_
          refine lv_if_ne (tgt := 49) hx hb dL_price_37 (by decide) (fun c37 => ?_) (fun c37 => ?_)
          · replace hf := xif_neg c37 hf
            obtain ⟨v4, ex⟩ : ∃ y : Int32, y = (a4 + 1) := ⟨_, rfl⟩
            replace hf := xl_f hf v4 ex
            refine lv_iinc (v := v4) (lv' := [(4, .int v4), (0, .ref (E.a 52)), (1, .int a1), (2, .int a2), (3, .int a3)]) hx hb dL_price_49 hl (k := 4) rfl (by rw [ex]; rfl) (by decide) rfl (fun ls hl => ?_)
            clear ex
            refine lv_goto (tgt := 5) hx hb dL_price_52 (by decide) ?_
            exact ih5 a1 a2 a3 v4 σ _ _ _ nc ns hw (lv_sub hl [1, 2, 3, 4, 0] rfl) hf (by omega) (by omega)
          · replace hf := xif_pos c37 hf
            refine lv_iload_n hx hb dL_price_40 rfl (lv_at hl 3 rfl) ?_
            refine va_gets hx hb hGL.2.2.1.1 hw.2.2.2 hown (hts (.fieldLink RL 286 "OvenRoundLaw" "PRICES" "[I") (by decide +kernel)) (fun _ h9 => h9) dL_price_41 ?_
            refine lv_iload hx hb dL_price_44 (lv_at hl 4 rfl) ?_
            obtain ⟨hin, hf⟩ := xrs_f hf
            refine va_ti hx hb hGL.2.2.1.2 hw.2.2.2 hin rfl dL_price_46 ?_
            refine lv_topi (fun v5 ex => ?_)
            replace hf := hf v5 ex
            clear ex hin
            refine lv_iadd hx hb dL_price_47 ?_
            refine lv_topi (fun v6 ex => ?_)
            replace hf := xl_f hf v6 ex
            clear ex
            refine lv_istore_n (lv' := [(3, .int v6), (0, .ref (E.a 52)), (1, .int a1), (2, .int a2), (4, .int a4)]) hx hb dL_price_48 rfl hl (by decide) rfl (fun ls hl => ?_)
            obtain ⟨v7, ex⟩ : ∃ y : Int32, y = (a4 + 1) := ⟨_, rfl⟩
            replace hf := xl_f hf v7 ex
            refine lv_iinc (v := v7) (lv' := [(4, .int v7), (3, .int v6), (0, .ref (E.a 52)), (1, .int a1), (2, .int a2)]) hx hb dL_price_49 hl (k := 4) rfl (by rw [ex]; rfl) (by decide) rfl (fun ls hl => ?_)
            clear ex
            refine lv_goto (tgt := 5) hx hb dL_price_52 (by decide) ?_
            exact ih5 a1 a2 v6 v7 σ _ _ _ nc ns hw (lv_sub hl [2, 3, 4, 1, 0] rfl) hf (by omega) (by omega)
  refine lv_iconst (v := 0) hx hb dL_price_0 (by decide) ?_
  refine lv_istore_n (lv' := [(3, .int 0), (0, .ref (E.a 52)), (1, .int p0), (2, .int p1)]) hx hb dL_price_1 rfl hl (by decide) rfl (fun ls hl => ?_)
  refine lv_iconst (v := 0) hx hb dL_price_2 (by decide) ?_
  refine lv_istore (lv' := [(4, .int 0), (3, .int 0), (0, .ref (E.a 52)), (1, .int p0), (2, .int p1)]) hx hb dL_price_3 hl (by decide) rfl (fun ls hl => ?_)
  exact h5 xFU p0 p1 0 0 σ _ _ _ 0 0 hw (lv_sub hl [2, 3, 4, 1, 0] rfl) hf (by omega) (by omega)

def fL_cheapest_c42 (fr : (Int32 → Int32 → xSt → Option (Int32 × xSt))) (k7 : (Int32 → Int32 → Int32 → Int32 → xSt → Option (Int32 × xSt))) (a1 : Int32) (a2 : Int32) (a4 : Int32) (t0 : Int32) (t1 : Int32) (σ : xSt) : Option (Int32 × xSt) := (xc2 (fr (a1 &&& (((1 : Int32) <<< (a4 &&& 31)) ^^^ (-1))) a4 σ) fun r4 σ5 => (xl (if (t0 + r4) < t1 then (t0 + r4) else t1) fun v6 => (xl (a4 + 1) fun v7 => k7 a1 a2 v6 v7 σ5)))
def fL_cheapest_c7 (fr : (Int32 → Int32 → xSt → Option (Int32 × xSt))) : Nat → Int32 → Int32 → Int32 → Int32 → xSt → Option (Int32 × xSt)
  | 0 => fun _ _ _ _ _ => none
  | n + 1 => fun a1 a2 a3 a4 σ => (if (σ 52 2) ≤ a4 then (if a1 = 0 then some (0, σ) else some (a3, σ)) else (if ((a1 >>> (a4 &&& 31)) &&& 1) = 1 then (if 0 ≤ a2 then (xc2 (fL_price a2 a4 σ) fun r2 σ3 => fL_cheapest_c42 fr (fL_cheapest_c7 fr n) a1 a2 a4 r2 a3 σ3) else fL_cheapest_c42 fr (fL_cheapest_c7 fr n) a1 a2 a4 0 a3 σ) else (xl (a4 + 1) fun v1 => fL_cheapest_c7 fr n a1 a2 a3 v1 σ)))
theorem fL_cheapest_c7_s (fr : (Int32 → Int32 → xSt → Option (Int32 × xSt))) (n : Nat) (a1 : Int32) (a2 : Int32) (a3 : Int32) (a4 : Int32) (σ : xSt) : fL_cheapest_c7 fr (n + 1) a1 a2 a3 a4 σ = ((if (σ 52 2) ≤ a4 then (if a1 = 0 then some (0, σ) else some (a3, σ)) else (if ((a1 >>> (a4 &&& 31)) &&& 1) = 1 then (if 0 ≤ a2 then (xc2 (fL_price a2 a4 σ) fun r2 σ3 => fL_cheapest_c42 fr (fL_cheapest_c7 fr n) a1 a2 a4 r2 a3 σ3) else fL_cheapest_c42 fr (fL_cheapest_c7 fr n) a1 a2 a4 0 a3 σ) else (xl (a4 + 1) fun v1 => fL_cheapest_c7 fr n a1 a2 a3 v1 σ))) : Option (Int32 × xSt)) := rfl
def fL_cheapest : Nat → Int32 → Int32 → xSt → Option (Int32 × xSt)
  | 0 => fun _ _ _ => none
  | d + 1 => fun p0 p1 σ => fL_cheapest_c7 (fL_cheapest d) xFU p0 p1 2147483647 0 σ
theorem fL_cheapest_s (d : Nat) (p0 : Int32) (p1 : Int32) (σ : xSt) : fL_cheapest (d + 1) p0 p1 σ = (fL_cheapest_c7 (fL_cheapest d) xFU p0 p1 2147483647 0 σ : Option (Int32 × xSt)) := rfl
abbrev rmL_cheapest (d : Nat) : Room := { frames := 1 + d, cells := 0, slots := 0, locals := 32 + 24 * d }
set_option maxRecDepth 100000 in
set_option maxHeartbeats 8000000 in
theorem mL_cheapest {l : Launch} (hl0 : l.stackTraces = false) {E : xE} (hE : xLE E) : ∀ (d : Nat) (p0 : Int32) (p1 : Int32) (σ : xSt) (o1 : Int32) (o2 : xSt), fL_cheapest d p0 p1 σ = some (o1, o2) → xLi l yL_cheapest wsL_cheapest (rmL_cheapest d) E [.ref (E.a 52), .int p0, .int p1] σ o1 o2 0 0 := by
  intro d
  induction d with
  | zero => intro p0 p1 σ o1 o2 hf; exact nomatch hf
  | succ d hrec =>
  intro p0 p1 σ o1 o2 hf
  rw [fL_cheapest_s] at hf
  refine xLi_of (cc := cL_cheapest) (maxL := 5) (ret := (some .int)) (by decide) rfl (Nat.le_of_ble_eq_true rfl) ?_
  intro p e s m args below meth c A ls ⟨hx, hb, hr, hml, hown, hts, hlk⟩ hA hGL hw hl
  have hG := hGL.1
  have hown : s.vm.findClass RL = some m.cls := hown
  have hl : lv_has ls 5 [(0, .ref (E.a 52)), (1, .int p0), (2, .int p1)] := hl
  have hk62 := hts (.fieldLink RL 62 "OvenRoundLaw" "recipes" "I") (by decide +kernel)
  have hiL : ∀ w ∈ wsL0, w ∈ wsL_cheapest := by decide +kernel
  have h7 : ∀ (n : Nat) (a1 : Int32) (a2 : Int32) (a3 : Int32) (a4 : Int32) (σ : xSt) (H : Heap) (locs : List Loc) (ls : Array Slot) (nc ns : Nat), xw E A s.heap s σ H locs → lv_has ls 5 [(0, .ref (E.a 52)), (1, .int a1), (2, .int a2), (3, .int a3), (4, .int a4)] → fL_cheapest_c7 (fL_cheapest d) n a1 a2 a3 a4 σ = some (o1, o2) → nc + (0) ≤ 0 → ns + (0) ≤ 0 → W p l e (rmL_cheapest (d + 1)) s m args below meth c H locs nc ns (MQ below (xQi E A o1 o2) args s 0 0 A) (F0 m 7 ls []) := by
    intro n7
    induction n7 with
    | zero => intro a1 a2 a3 a4 σ H locs ls nc ns hw hl hf hnc hns; exact nomatch hf
    | succ n7 ih7 =>
      have h42 : ∀ (a1 : Int32) (a2 : Int32) (a4 : Int32) (t0 : Int32) (t1 : Int32) (σ : xSt) (H : Heap) (locs : List Loc) (ls : Array Slot) (nc ns : Nat), xw E A s.heap s σ H locs → lv_has ls 5 [(0, .ref (E.a 52)), (1, .int a1), (2, .int a2), (4, .int a4)] → fL_cheapest_c42 (fL_cheapest d) (fL_cheapest_c7 (fL_cheapest d) n7) a1 a2 a4 t0 t1 σ = some (o1, o2) → nc + (0) ≤ 0 → ns + (0) ≤ 0 → W p l e (rmL_cheapest (d + 1)) s m args below meth c H locs nc ns (MQ below (xQi E A o1 o2) args s 0 0 A) (F0 m 42 ls [.int t0, .int t1]) := by
        intro a1 a2 a4 t0 t1 σ H locs ls nc ns hw hl hf hnc hns
        unfold fL_cheapest_c42 at hf
        refine lv_aload_n hx hb dL_cheapest_42 rfl (lv_at hl 0 rfl) ?_
        refine lv_iload_n hx hb dL_cheapest_43 rfl (lv_at hl 1 rfl) ?_
        refine lv_iconst (v := 1) hx hb dL_cheapest_44 (by decide) ?_
        refine lv_iload hx hb dL_cheapest_45 (lv_at hl 3 rfl) ?_
        refine lv_ishl hx hb dL_cheapest_47 ?_
        refine lv_iconst (v := (-1)) hx hb dL_cheapest_48 (by decide) ?_
        refine lv_ixor hx hb dL_cheapest_49 ?_
        refine lv_iand hx hb dL_cheapest_50 ?_
        refine lv_iload hx hb dL_cheapest_51 (lv_at hl 3 rfl) ?_
        obtain ⟨r4, σ5, hcl, hf⟩ := xc2_f hf
        refine x_callLi (va_runV (As := [.int (a1 &&& (((1 : Int32) <<< (a4 &&& 31)) ^^^ (-1))), .int a4]) (rest := [.int t0, .int t1]) ⟨hx, hb, hml, hown, hts⟩ (hrec (a1 &&& (((1 : Int32) <<< (a4 &&& 31)) ^^^ (-1))) a4 σ r4 σ5 hcl H.size) (cwV 2 hts gL_cheapest_L_cheapest rfl rfl rfl (by decide +kernel) ⟨(by first | exact Nat.le_of_ble_eq_true rfl | (simp only [rmL_cheapest, rmL_cheapest, rmL_price]; omega)), (by first | exact Nat.le_of_ble_eq_true rfl | (simp only [rmL_cheapest, rmL_cheapest, rmL_price]; omega))⟩) (x_preLV _ hw hA hGL (cL52 hE) rfl) rfl rfl hl.1 rfl (lv_room ((by first | exact Nat.le_of_ble_eq_true rfl | (simp only [rmL_cheapest, rmL_cheapest, rmL_price]; omega)))) dL_cheapest_53 ⟨show nc + 0 ≤ 0 by omega, show ns + 0 ≤ 0 by omega⟩) hw hA (fun H locs hw => ?_)
        clear hcl
        refine lv_iadd hx hb dL_cheapest_56 ?_
        refine va_mmin hx hb (hml.trans hl.1.symm) hown (hts (.methodLink RL 206 Lib.Math.min.name) (by decide +kernel)) (hts (.static Lib.Math.min.name) (by decide +kernel)) (hts (.initialized "java/lang/Math") (by decide +kernel)) (hts (.code Lib.Math.min.name Lib.Math.min.code 2 (some .int)) (by decide +kernel)) ((by first | exact Nat.le_of_ble_eq_true rfl | (simp only [rmL_cheapest, rmL_cheapest, rmL_price]; omega))) ((by first | exact Nat.le_of_ble_eq_true rfl | (simp only [rmL_cheapest, rmL_cheapest, rmL_price]; omega))) (show (nc + 0) ≤ 0 by omega) (show (ns + 0) ≤ 0 by omega) dL_cheapest_57 ?_
        refine lv_topi (fun v6 ex => ?_)
        replace hf := xl_f hf v6 ex
        clear ex
        refine lv_istore_n (lv' := [(3, .int v6), (0, .ref (E.a 52)), (1, .int a1), (2, .int a2), (4, .int a4)]) hx hb dL_cheapest_60 rfl hl (by decide) rfl (fun ls hl => ?_)
        obtain ⟨v7, ex⟩ : ∃ y : Int32, y = (a4 + 1) := ⟨_, rfl⟩
        replace hf := xl_f hf v7 ex
        refine lv_iinc (v := v7) (lv' := [(4, .int v7), (3, .int v6), (0, .ref (E.a 52)), (1, .int a1), (2, .int a2)]) hx hb dL_cheapest_61 hl (k := 4) rfl (by rw [ex]; rfl) (by decide) rfl (fun ls hl => ?_)
        clear ex
        refine lv_goto (tgt := 7) hx hb dL_cheapest_64 (by decide) ?_
        exact ih7 a1 a2 v6 v7 σ5 _ _ _ (nc + 0) (ns + 0) hw (lv_sub hl [2, 3, 4, 1, 0] rfl) hf (by omega) (by omega)
      intro a1 a2 a3 a4 σ H locs ls nc ns hw hl hf hnc hns
      rw [fL_cheapest_c7_s] at hf
      refine lv_iload hx hb dL_cheapest_7 (lv_at hl 4 rfl) ?_
      refine lv_aload_n hx hb dL_cheapest_9 rfl (lv_at hl 0 rfl) ?_
      refine x_geti hx hb hw (cL52 hE) (own := RL) (ref := RL) (C := RL) (T := TL) (N := 10) hts hiL hown rfl 2 (by decide) hk62 (fun _ h9 => h9) rfl dL_cheapest_10 ?_
      refine lv_icmp_ge (tgt := 67) hx hb dL_cheapest_13 (by decide) (fun c13 => ?_) (fun c13 => ?_)
      · replace hf := xif_pos c13 hf
        refine lv_iload_n hx hb dL_cheapest_67 rfl (lv_at hl 1 rfl) ?_
        refine lv_if_ne (tgt := 75) hx hb dL_cheapest_68 (by decide) (fun c68 => ?_) (fun c68 => ?_)
        · replace hf := xif_neg c68 hf
          refine lv_iload_n hx hb dL_cheapest_75 rfl (lv_at hl 3 rfl) ?_
          exact x_Liret hx hb hr hlk hw hf (show nc ≤ 0 by omega) (show ns ≤ 0 by omega) dL_cheapest_76
        · replace hf := xif_pos c68 hf
          refine lv_iconst (v := 0) hx hb dL_cheapest_71 (by decide) ?_
          refine lv_goto (tgt := 76) hx hb dL_cheapest_72 (by decide) ?_
          exact x_Liret hx hb hr hlk hw hf (show nc ≤ 0 by omega) (show ns ≤ 0 by omega) dL_cheapest_76
      · replace hf := xif_neg c13 hf
        refine lv_iload_n hx hb dL_cheapest_16 rfl (lv_at hl 1 rfl) ?_
        refine lv_iload hx hb dL_cheapest_17 (lv_at hl 4 rfl) ?_
        refine lv_ishr hx hb dL_cheapest_19 ?_
        refine lv_iconst (v := 1) hx hb dL_cheapest_20 (by decide) ?_
        refine lv_iand hx hb dL_cheapest_21 ?_
        refine lv_iconst (v := 1) hx hb dL_cheapest_22 (by decide) ?_
        refine lv_icmp_ne (tgt := 61) hx hb dL_cheapest_23 (by decide) (fun c23 => ?_) (fun c23 => ?_)
        · replace hf := xif_neg c23 hf
          obtain ⟨v1, ex⟩ : ∃ y : Int32, y = (a4 + 1) := ⟨_, rfl⟩
          replace hf := xl_f hf v1 ex
          refine lv_iinc (v := v1) (lv' := [(4, .int v1), (0, .ref (E.a 52)), (1, .int a1), (2, .int a2), (3, .int a3)]) hx hb dL_cheapest_61 hl (k := 4) rfl (by rw [ex]; rfl) (by decide) rfl (fun ls hl => ?_)
          clear ex
          refine lv_goto (tgt := 7) hx hb dL_cheapest_64 (by decide) ?_
          exact ih7 a1 a2 a3 v1 σ _ _ _ nc ns hw (lv_sub hl [1, 2, 3, 4, 0] rfl) hf (by omega) (by omega)
        · replace hf := xif_pos c23 hf
          refine lv_iload_n hx hb dL_cheapest_26 rfl (lv_at hl 3 rfl) ?_
          refine lv_iload_n hx hb dL_cheapest_27 rfl (lv_at hl 2 rfl) ?_
          refine lv_if_ge (tgt := 35) hx hb dL_cheapest_28 (by decide) (fun c28 => ?_) (fun c28 => ?_)
          · replace hf := xif_pos c28 hf
            refine lv_aload_n hx hb dL_cheapest_35 rfl (lv_at hl 0 rfl) ?_
            refine lv_iload_n hx hb dL_cheapest_36 rfl (lv_at hl 2 rfl) ?_
            refine lv_iload hx hb dL_cheapest_37 (lv_at hl 4 rfl) ?_
            obtain ⟨r2, σ3, hcl, hf⟩ := xc2_f hf
            refine x_callLi (va_runV (As := [.int a2, .int a4]) (rest := [.int a3]) ⟨hx, hb, hml, hown, hts⟩ (mL_price hl0 hE a2 a4 σ r2 σ3 hcl H.size) (cwV 2 hts gL_cheapest_L_price rfl rfl rfl (by decide +kernel) ⟨(by first | exact Nat.le_of_ble_eq_true rfl | (simp only [rmL_cheapest, rmL_cheapest, rmL_price]; omega)), (by first | exact Nat.le_of_ble_eq_true rfl | (simp only [rmL_cheapest, rmL_cheapest, rmL_price]; omega))⟩) (x_preLV _ hw hA hGL (cL52 hE) rfl) rfl rfl hl.1 rfl (lv_room ((by first | exact Nat.le_of_ble_eq_true rfl | (simp only [rmL_cheapest, rmL_cheapest, rmL_price]; omega)))) dL_cheapest_39 ⟨show nc + 0 ≤ 0 by omega, show ns + 0 ≤ 0 by omega⟩) hw hA (fun H locs hw => ?_)
            clear hcl
            exact h42 a1 a2 a4 r2 a3 σ3 _ _ _ (nc + 0) (ns + 0) hw (lv_sub hl [0, 1, 2, 4] rfl) hf (by omega) (by omega)
          · replace hf := xif_neg c28 hf
            refine lv_iconst (v := 0) hx hb dL_cheapest_31 (by decide) ?_
            refine lv_goto (tgt := 42) hx hb dL_cheapest_32 (by decide) ?_
            exact h42 a1 a2 a4 0 a3 σ _ _ _ nc ns hw (lv_sub hl [0, 1, 2, 4] rfl) hf (by omega) (by omega)
  refine lv_ldcw hx hb hown (hts (.constant RL 268 (2147483647)) (by decide +kernel)) dL_cheapest_0 ?_
  refine lv_istore_n (lv' := [(3, .int 2147483647), (0, .ref (E.a 52)), (1, .int p0), (2, .int p1)]) hx hb dL_cheapest_3 rfl hl (by decide) rfl (fun ls hl => ?_)
  refine lv_iconst (v := 0) hx hb dL_cheapest_4 (by decide) ?_
  refine lv_istore (lv' := [(4, .int 0), (3, .int 2147483647), (0, .ref (E.a 52)), (1, .int p0), (2, .int p1)]) hx hb dL_cheapest_5 hl (by decide) rfl (fun ls hl => ?_)
  exact h7 xFU p0 p1 2147483647 0 σ _ _ _ 0 0 hw (lv_sub hl [2, 3, 4, 1, 0] rfl) hf (by omega) (by omega)

def fL_isNone_c26 (q0 : Nat) (q1 : Nat) (k3 : (Int32 → Int32 → Int32 → xSt → Option (Int32 × xSt))) (k13 : (Int32 → Int32 → Int32 → Int32 → xSt → Option (Int32 × xSt))) : Nat → Int32 → Int32 → Int32 → Int32 → Int32 → xSt → Option (Int32 × xSt)
  | 0 => fun _ _ _ _ _ _ => none
  | n + 1 => fun a2 a3 a4 a5 a6 σ => (if 10 < ((a4 + a5) + a6) then (xl (a5 + 1) fun v2 => k13 a2 a3 a4 v2 σ) else (xl (((10 - a4) - a5) - a6) fun v3 => (xr σ q0 4 0 fun v4 => (xr σ q0 4 1 fun v5 => (xr σ q0 4 2 fun v6 => (xr σ q0 4 3 fun v7 => (xl ((((a4 * v4) + (a5 * v5)) + (a6 * v6)) + (v3 * v7)) fun v8 => (xr σ q1 4 0 fun v9 => (if v9 < (10 * a4) then (xl (a6 + 1) fun v10 => fL_isNone_c26 q0 q1 k3 k13 n a2 a3 a4 a5 v10 σ) else (xr σ q1 4 1 fun v11 => (if v11 < (10 * a5) then (xl (a6 + 1) fun v12 => fL_isNone_c26 q0 q1 k3 k13 n a2 a3 a4 a5 v12 σ) else (xr σ q1 4 2 fun v13 => (if v13 < (10 * a6) then (xl (a6 + 1) fun v14 => fL_isNone_c26 q0 q1 k3 k13 n a2 a3 a4 a5 v14 σ) else (xr σ q1 4 3 fun v15 => (if v15 < (10 * v3) then (xl (a6 + 1) fun v16 => fL_isNone_c26 q0 q1 k3 k13 n a2 a3 a4 a5 v16 σ) else (if v8 < (10 * a2) then (xl (a6 + 1) fun v17 => fL_isNone_c26 q0 q1 k3 k13 n a2 a3 a4 a5 v17 σ) else (if (10 * a3) < v8 then (xl (a6 + 1) fun v18 => fL_isNone_c26 q0 q1 k3 k13 n a2 a3 a4 a5 v18 σ) else some (0, σ))))))))))))))))))
theorem fL_isNone_c26_s (q0 : Nat) (q1 : Nat) (k3 : (Int32 → Int32 → Int32 → xSt → Option (Int32 × xSt))) (k13 : (Int32 → Int32 → Int32 → Int32 → xSt → Option (Int32 × xSt))) (n : Nat) (a2 : Int32) (a3 : Int32) (a4 : Int32) (a5 : Int32) (a6 : Int32) (σ : xSt) : fL_isNone_c26 q0 q1 k3 k13 (n + 1) a2 a3 a4 a5 a6 σ = ((if 10 < ((a4 + a5) + a6) then (xl (a5 + 1) fun v2 => k13 a2 a3 a4 v2 σ) else (xl (((10 - a4) - a5) - a6) fun v3 => (xr σ q0 4 0 fun v4 => (xr σ q0 4 1 fun v5 => (xr σ q0 4 2 fun v6 => (xr σ q0 4 3 fun v7 => (xl ((((a4 * v4) + (a5 * v5)) + (a6 * v6)) + (v3 * v7)) fun v8 => (xr σ q1 4 0 fun v9 => (if v9 < (10 * a4) then (xl (a6 + 1) fun v10 => fL_isNone_c26 q0 q1 k3 k13 n a2 a3 a4 a5 v10 σ) else (xr σ q1 4 1 fun v11 => (if v11 < (10 * a5) then (xl (a6 + 1) fun v12 => fL_isNone_c26 q0 q1 k3 k13 n a2 a3 a4 a5 v12 σ) else (xr σ q1 4 2 fun v13 => (if v13 < (10 * a6) then (xl (a6 + 1) fun v14 => fL_isNone_c26 q0 q1 k3 k13 n a2 a3 a4 a5 v14 σ) else (xr σ q1 4 3 fun v15 => (if v15 < (10 * v3) then (xl (a6 + 1) fun v16 => fL_isNone_c26 q0 q1 k3 k13 n a2 a3 a4 a5 v16 σ) else (if v8 < (10 * a2) then (xl (a6 + 1) fun v17 => fL_isNone_c26 q0 q1 k3 k13 n a2 a3 a4 a5 v17 σ) else (if (10 * a3) < v8 then (xl (a6 + 1) fun v18 => fL_isNone_c26 q0 q1 k3 k13 n a2 a3 a4 a5 v18 σ) else some (0, σ)))))))))))))))))) : Option (Int32 × xSt)) := rfl
def fL_isNone_c13 (q0 : Nat) (q1 : Nat) (k3 : (Int32 → Int32 → Int32 → xSt → Option (Int32 × xSt))) : Nat → Int32 → Int32 → Int32 → Int32 → xSt → Option (Int32 × xSt)
  | 0 => fun _ _ _ _ _ => none
  | n + 1 => fun a2 a3 a4 a5 σ => (if 10 < (a4 + a5) then (xl (a4 + 1) fun v1 => k3 a2 a3 v1 σ) else fL_isNone_c26 q0 q1 k3 (fL_isNone_c13 q0 q1 k3 n) xFU a2 a3 a4 a5 0 σ)
theorem fL_isNone_c13_s (q0 : Nat) (q1 : Nat) (k3 : (Int32 → Int32 → Int32 → xSt → Option (Int32 × xSt))) (n : Nat) (a2 : Int32) (a3 : Int32) (a4 : Int32) (a5 : Int32) (σ : xSt) : fL_isNone_c13 q0 q1 k3 (n + 1) a2 a3 a4 a5 σ = ((if 10 < (a4 + a5) then (xl (a4 + 1) fun v1 => k3 a2 a3 v1 σ) else fL_isNone_c26 q0 q1 k3 (fL_isNone_c13 q0 q1 k3 n) xFU a2 a3 a4 a5 0 σ) : Option (Int32 × xSt)) := rfl
def fL_isNone_c3 (q0 : Nat) (q1 : Nat) : Nat → Int32 → Int32 → Int32 → xSt → Option (Int32 × xSt)
  | 0 => fun _ _ _ _ => none
  | n + 1 => fun a2 a3 a4 σ => (if 10 < a4 then some (1, σ) else fL_isNone_c13 q0 q1 (fL_isNone_c3 q0 q1 n) xFU a2 a3 a4 0 σ)
theorem fL_isNone_c3_s (q0 : Nat) (q1 : Nat) (n : Nat) (a2 : Int32) (a3 : Int32) (a4 : Int32) (σ : xSt) : fL_isNone_c3 q0 q1 (n + 1) a2 a3 a4 σ = ((if 10 < a4 then some (1, σ) else fL_isNone_c13 q0 q1 (fL_isNone_c3 q0 q1 n) xFU a2 a3 a4 0 σ) : Option (Int32 × xSt)) := rfl
def fL_isNone (q0 : Nat) (q1 : Nat) (p2 : Int32) (p3 : Int32) (σ : xSt) : Option (Int32 × xSt) := fL_isNone_c3 q0 q1 xFU p2 p3 0 σ
abbrev rmL_isNone : Room := { frames := 0, cells := 0, slots := 0, locals := 0 }
set_option maxRecDepth 100000 in
set_option maxHeartbeats 8000000 in
theorem mL_isNone {l : Launch} (hl0 : l.stackTraces = false) {E : xE} (hE : xLE E) (q0 : Nat) (q1 : Nat) (hq_q0 : E.sh[q0]? = some (.inl 4)) (hq_q1 : E.sh[q1]? = some (.inl 4)) (p2 : Int32) (p3 : Int32) (σ : xSt) (o1 : Int32) (o2 : xSt) (hf : fL_isNone q0 q1 p2 p3 σ = some (o1, o2)) : xLi l yL_isNone wsL_isNone rmL_isNone E [.ref (E.a q0), .ref (E.a q1), .int p2, .int p3] σ o1 o2 0 0 := by
  unfold fL_isNone at hf
  refine xLi_of (cc := cL_isNone) (maxL := 9) (ret := (some .boolean)) (by decide) rfl (Nat.le_of_ble_eq_true rfl) ?_
  intro p e s m args below meth c A ls ⟨hx, hb, hr, hml, hown, hts, hlk⟩ hA hGL hw hl
  have hG := hGL.1
  have hown : s.vm.findClass RL = some m.cls := hown
  have hl : lv_has ls 9 [(0, .ref (E.a q0)), (1, .ref (E.a q1)), (2, .int p2), (3, .int p3)] := hl
  have h3 : ∀ (n : Nat) (a2 : Int32) (a3 : Int32) (a4 : Int32) (σ : xSt) (H : Heap) (locs : List Loc) (ls : Array Slot) (nc ns : Nat), xw E A s.heap s σ H locs → lv_has ls 9 [(0, .ref (E.a q0)), (1, .ref (E.a q1)), (2, .int a2), (3, .int a3), (4, .int a4)] → fL_isNone_c3 q0 q1 n a2 a3 a4 σ = some (o1, o2) → nc + (0) ≤ 0 → ns + (0) ≤ 0 → W p l e rmL_isNone s m args below meth c H locs nc ns (MQ below (xQi E A o1 o2) args s 0 0 A) (F0 m 3 ls []) := by
    intro n3
    induction n3 with
    | zero => intro a2 a3 a4 σ H locs ls nc ns hw hl hf hnc hns; exact nomatch hf
    | succ n3 ih3 =>
      have h13 : ∀ (n : Nat) (a2 : Int32) (a3 : Int32) (a4 : Int32) (a5 : Int32) (σ : xSt) (H : Heap) (locs : List Loc) (ls : Array Slot) (nc ns : Nat), xw E A s.heap s σ H locs → lv_has ls 9 [(0, .ref (E.a q0)), (1, .ref (E.a q1)), (2, .int a2), (3, .int a3), (4, .int a4), (5, .int a5)] → fL_isNone_c13 q0 q1 (fL_isNone_c3 q0 q1 n3) n a2 a3 a4 a5 σ = some (o1, o2) → nc + (0) ≤ 0 → ns + (0) ≤ 0 → W p l e rmL_isNone s m args below meth c H locs nc ns (MQ below (xQi E A o1 o2) args s 0 0 A) (F0 m 13 ls []) := by
        intro n13
        induction n13 with
        | zero => intro a2 a3 a4 a5 σ H locs ls nc ns hw hl hf hnc hns; exact nomatch hf
        | succ n13 ih13 =>
          have h26 : ∀ (n : Nat) (a2 : Int32) (a3 : Int32) (a4 : Int32) (a5 : Int32) (a6 : Int32) (σ : xSt) (H : Heap) (locs : List Loc) (ls : Array Slot) (nc ns : Nat), xw E A s.heap s σ H locs → lv_has ls 9 [(0, .ref (E.a q0)), (1, .ref (E.a q1)), (2, .int a2), (3, .int a3), (4, .int a4), (5, .int a5), (6, .int a6)] → fL_isNone_c26 q0 q1 (fL_isNone_c3 q0 q1 n3) (fL_isNone_c13 q0 q1 (fL_isNone_c3 q0 q1 n3) n13) n a2 a3 a4 a5 a6 σ = some (o1, o2) → nc + (0) ≤ 0 → ns + (0) ≤ 0 → W p l e rmL_isNone s m args below meth c H locs nc ns (MQ below (xQi E A o1 o2) args s 0 0 A) (F0 m 26 ls []) := by
            intro n26
            induction n26 with
            | zero => intro a2 a3 a4 a5 a6 σ H locs ls nc ns hw hl hf hnc hns; exact nomatch hf
            | succ n26 ih26 =>
              intro a2 a3 a4 a5 a6 σ H locs ls nc ns hw hl hf hnc hns
              rw [fL_isNone_c26_s] at hf
              refine lv_iload hx hb dL_isNone_26 (lv_at hl 4 rfl) ?_
              refine lv_iload hx hb dL_isNone_28 (lv_at hl 5 rfl) ?_
              refine lv_iadd hx hb dL_isNone_30 ?_
              refine lv_iload hx hb dL_isNone_31 (lv_at hl 6 rfl) ?_
              refine lv_iadd hx hb dL_isNone_33 ?_
              refine lv_bipush (v := 10) hx hb dL_isNone_34 (by decide) ?_
              refine lv_icmp_gt (tgt := 151) hx hb dL_isNone_36 (by decide) (fun c36 => ?_) (fun c36 => ?_)
              · replace hf := xif_pos c36 hf
                obtain ⟨v2, ex⟩ : ∃ y : Int32, y = (a5 + 1) := ⟨_, rfl⟩
                replace hf := xl_f hf v2 ex
                refine lv_iinc (v := v2) (lv' := [(5, .int v2), (0, .ref (E.a q0)), (1, .ref (E.a q1)), (2, .int a2), (3, .int a3), (4, .int a4), (6, .int a6)]) hx hb dL_isNone_151 hl (k := 5) rfl (by rw [ex]; rfl) (by decide) rfl (fun ls hl => ?_)
                clear ex
                refine lv_goto (tgt := 13) hx hb dL_isNone_154 (by decide) ?_
                exact ih13 a2 a3 a4 v2 σ _ _ _ nc ns hw (lv_sub hl [1, 2, 3, 4, 5, 0] rfl) hf (by omega) (by omega)
              · replace hf := xif_neg c36 hf
                refine lv_bipush (v := 10) hx hb dL_isNone_39 (by decide) ?_
                refine lv_iload hx hb dL_isNone_41 (lv_at hl 4 rfl) ?_
                refine lv_isub hx hb dL_isNone_43 ?_
                refine lv_iload hx hb dL_isNone_44 (lv_at hl 5 rfl) ?_
                refine lv_isub hx hb dL_isNone_46 ?_
                refine lv_iload hx hb dL_isNone_47 (lv_at hl 6 rfl) ?_
                refine lv_isub hx hb dL_isNone_49 ?_
                refine lv_topi (fun v3 ex => ?_)
                replace hf := xl_f hf v3 ex
                clear ex
                refine lv_istore (lv' := [(7, .int v3), (0, .ref (E.a q0)), (1, .ref (E.a q1)), (2, .int a2), (3, .int a3), (4, .int a4), (5, .int a5), (6, .int a6)]) hx hb dL_isNone_50 hl (by decide) rfl (fun ls hl => ?_)
                refine lv_iload hx hb dL_isNone_52 (lv_at hl 5 rfl) ?_
                refine lv_aload_n hx hb dL_isNone_54 rfl (lv_at hl 1 rfl) ?_
                refine lv_iconst (v := 0) hx hb dL_isNone_55 (by decide) ?_
                obtain ⟨hin, hf⟩ := xr_f hf
                refine x_iald hx hb hw hq_q0 hin dL_isNone_56 ?_
                refine lv_topi (fun v4 ex => ?_)
                replace hf := hf v4 ex
                clear ex hin
                refine lv_imul hx hb dL_isNone_57 ?_
                refine lv_iload hx hb dL_isNone_58 (lv_at hl 6 rfl) ?_
                refine lv_aload_n hx hb dL_isNone_60 rfl (lv_at hl 1 rfl) ?_
                refine lv_iconst (v := 1) hx hb dL_isNone_61 (by decide) ?_
                obtain ⟨hin, hf⟩ := xr_f hf
                refine x_iald hx hb hw hq_q0 hin dL_isNone_62 ?_
                refine lv_topi (fun v5 ex => ?_)
                replace hf := hf v5 ex
                clear ex hin
                refine lv_imul hx hb dL_isNone_63 ?_
                refine lv_iadd hx hb dL_isNone_64 ?_
                refine lv_iload hx hb dL_isNone_65 (lv_at hl 7 rfl) ?_
                refine lv_aload_n hx hb dL_isNone_67 rfl (lv_at hl 1 rfl) ?_
                refine lv_iconst (v := 2) hx hb dL_isNone_68 (by decide) ?_
                obtain ⟨hin, hf⟩ := xr_f hf
                refine x_iald hx hb hw hq_q0 hin dL_isNone_69 ?_
                refine lv_topi (fun v6 ex => ?_)
                replace hf := hf v6 ex
                clear ex hin
                refine lv_imul hx hb dL_isNone_70 ?_
                refine lv_iadd hx hb dL_isNone_71 ?_
                refine lv_iload hx hb dL_isNone_72 (lv_at hl 0 rfl) ?_
                refine lv_aload_n hx hb dL_isNone_74 rfl (lv_at hl 1 rfl) ?_
                refine lv_iconst (v := 3) hx hb dL_isNone_75 (by decide) ?_
                obtain ⟨hin, hf⟩ := xr_f hf
                refine x_iald hx hb hw hq_q0 hin dL_isNone_76 ?_
                refine lv_topi (fun v7 ex => ?_)
                replace hf := hf v7 ex
                clear ex hin
                refine lv_imul hx hb dL_isNone_77 ?_
                refine lv_iadd hx hb dL_isNone_78 ?_
                refine lv_topi (fun v8 ex => ?_)
                replace hf := xl_f hf v8 ex
                clear ex
                refine lv_istore (lv' := [(8, .int v8), (7, .int v3), (0, .ref (E.a q0)), (1, .ref (E.a q1)), (2, .int a2), (3, .int a3), (4, .int a4), (5, .int a5), (6, .int a6)]) hx hb dL_isNone_79 hl (by decide) rfl (fun ls hl => ?_)
                refine lv_bipush (v := 10) hx hb dL_isNone_81 (by decide) ?_
                refine lv_iload hx hb dL_isNone_83 (lv_at hl 6 rfl) ?_
                refine lv_imul hx hb dL_isNone_85 ?_
                refine lv_aload_n hx hb dL_isNone_86 rfl (lv_at hl 3 rfl) ?_
                refine lv_iconst (v := 0) hx hb dL_isNone_87 (by decide) ?_
                obtain ⟨hin, hf⟩ := xr_f hf
                refine x_iald hx hb hw hq_q1 hin dL_isNone_88 ?_
                refine lv_topi (fun v9 ex => ?_)
                replace hf := hf v9 ex
                clear ex hin
                refine lv_icmp_gt (tgt := 145) hx hb dL_isNone_89 (by decide) (fun c89 => ?_) (fun c89 => ?_)
                · replace hf := xif_pos c89 hf
                  obtain ⟨v10, ex⟩ : ∃ y : Int32, y = (a6 + 1) := ⟨_, rfl⟩
                  replace hf := xl_f hf v10 ex
                  refine lv_iinc (v := v10) (lv' := [(6, .int v10), (8, .int v8), (7, .int v3), (0, .ref (E.a q0)), (1, .ref (E.a q1)), (2, .int a2), (3, .int a3), (4, .int a4), (5, .int a5)]) hx hb dL_isNone_145 hl (k := 8) rfl (by rw [ex]; rfl) (by decide) rfl (fun ls hl => ?_)
                  clear ex
                  refine lv_goto (tgt := 26) hx hb dL_isNone_148 (by decide) ?_
                  exact ih26 a2 a3 a4 a5 v10 σ _ _ _ nc ns hw (lv_sub hl [3, 4, 5, 6, 7, 8, 0] rfl) hf (by omega) (by omega)
                · replace hf := xif_neg c89 hf
                  refine lv_bipush (v := 10) hx hb dL_isNone_92 (by decide) ?_
                  refine lv_iload hx hb dL_isNone_94 (lv_at hl 7 rfl) ?_
                  refine lv_imul hx hb dL_isNone_96 ?_
                  refine lv_aload_n hx hb dL_isNone_97 rfl (lv_at hl 3 rfl) ?_
                  refine lv_iconst (v := 1) hx hb dL_isNone_98 (by decide) ?_
                  obtain ⟨hin, hf⟩ := xr_f hf
                  refine x_iald hx hb hw hq_q1 hin dL_isNone_99 ?_
                  refine lv_topi (fun v11 ex => ?_)
                  replace hf := hf v11 ex
                  clear ex hin
                  refine lv_icmp_gt (tgt := 145) hx hb dL_isNone_100 (by decide) (fun c100 => ?_) (fun c100 => ?_)
                  · replace hf := xif_pos c100 hf
                    obtain ⟨v12, ex⟩ : ∃ y : Int32, y = (a6 + 1) := ⟨_, rfl⟩
                    replace hf := xl_f hf v12 ex
                    refine lv_iinc (v := v12) (lv' := [(6, .int v12), (8, .int v8), (7, .int v3), (0, .ref (E.a q0)), (1, .ref (E.a q1)), (2, .int a2), (3, .int a3), (4, .int a4), (5, .int a5)]) hx hb dL_isNone_145 hl (k := 8) rfl (by rw [ex]; rfl) (by decide) rfl (fun ls hl => ?_)
                    clear ex
                    refine lv_goto (tgt := 26) hx hb dL_isNone_148 (by decide) ?_
                    exact ih26 a2 a3 a4 a5 v12 σ _ _ _ nc ns hw (lv_sub hl [3, 4, 5, 6, 7, 8, 0] rfl) hf (by omega) (by omega)
                  · replace hf := xif_neg c100 hf
                    refine lv_bipush (v := 10) hx hb dL_isNone_103 (by decide) ?_
                    refine lv_iload hx hb dL_isNone_105 (lv_at hl 8 rfl) ?_
                    refine lv_imul hx hb dL_isNone_107 ?_
                    refine lv_aload_n hx hb dL_isNone_108 rfl (lv_at hl 3 rfl) ?_
                    refine lv_iconst (v := 2) hx hb dL_isNone_109 (by decide) ?_
                    obtain ⟨hin, hf⟩ := xr_f hf
                    refine x_iald hx hb hw hq_q1 hin dL_isNone_110 ?_
                    refine lv_topi (fun v13 ex => ?_)
                    replace hf := hf v13 ex
                    clear ex hin
                    refine lv_icmp_gt (tgt := 145) hx hb dL_isNone_111 (by decide) (fun c111 => ?_) (fun c111 => ?_)
                    · replace hf := xif_pos c111 hf
                      obtain ⟨v14, ex⟩ : ∃ y : Int32, y = (a6 + 1) := ⟨_, rfl⟩
                      replace hf := xl_f hf v14 ex
                      refine lv_iinc (v := v14) (lv' := [(6, .int v14), (8, .int v8), (7, .int v3), (0, .ref (E.a q0)), (1, .ref (E.a q1)), (2, .int a2), (3, .int a3), (4, .int a4), (5, .int a5)]) hx hb dL_isNone_145 hl (k := 8) rfl (by rw [ex]; rfl) (by decide) rfl (fun ls hl => ?_)
                      clear ex
                      refine lv_goto (tgt := 26) hx hb dL_isNone_148 (by decide) ?_
                      exact ih26 a2 a3 a4 a5 v14 σ _ _ _ nc ns hw (lv_sub hl [3, 4, 5, 6, 7, 8, 0] rfl) hf (by omega) (by omega)
                    · replace hf := xif_neg c111 hf
                      refine lv_bipush (v := 10) hx hb dL_isNone_114 (by decide) ?_
                      refine lv_iload hx hb dL_isNone_116 (lv_at hl 1 rfl) ?_
                      refine lv_imul hx hb dL_isNone_118 ?_
                      refine lv_aload_n hx hb dL_isNone_119 rfl (lv_at hl 3 rfl) ?_
                      refine lv_iconst (v := 3) hx hb dL_isNone_120 (by decide) ?_
                      obtain ⟨hin, hf⟩ := xr_f hf
                      refine x_iald hx hb hw hq_q1 hin dL_isNone_121 ?_
                      refine lv_topi (fun v15 ex => ?_)
                      replace hf := hf v15 ex
                      clear ex hin
                      refine lv_icmp_gt (tgt := 145) hx hb dL_isNone_122 (by decide) (fun c122 => ?_) (fun c122 => ?_)
                      · replace hf := xif_pos c122 hf
                        obtain ⟨v16, ex⟩ : ∃ y : Int32, y = (a6 + 1) := ⟨_, rfl⟩
                        replace hf := xl_f hf v16 ex
                        refine lv_iinc (v := v16) (lv' := [(6, .int v16), (8, .int v8), (7, .int v3), (0, .ref (E.a q0)), (1, .ref (E.a q1)), (2, .int a2), (3, .int a3), (4, .int a4), (5, .int a5)]) hx hb dL_isNone_145 hl (k := 8) rfl (by rw [ex]; rfl) (by decide) rfl (fun ls hl => ?_)
                        clear ex
                        refine lv_goto (tgt := 26) hx hb dL_isNone_148 (by decide) ?_
                        exact ih26 a2 a3 a4 a5 v16 σ _ _ _ nc ns hw (lv_sub hl [3, 4, 5, 6, 7, 8, 0] rfl) hf (by omega) (by omega)
                      · replace hf := xif_neg c122 hf
                        refine lv_iload hx hb dL_isNone_125 (lv_at hl 0 rfl) ?_
                        refine lv_bipush (v := 10) hx hb dL_isNone_127 (by decide) ?_
                        refine lv_iload_n hx hb dL_isNone_129 rfl (lv_at hl 4 rfl) ?_
                        refine lv_imul hx hb dL_isNone_130 ?_
                        refine lv_icmp_lt (tgt := 145) hx hb dL_isNone_131 (by decide) (fun c131 => ?_) (fun c131 => ?_)
                        · replace hf := xif_pos c131 hf
                          obtain ⟨v17, ex⟩ : ∃ y : Int32, y = (a6 + 1) := ⟨_, rfl⟩
                          replace hf := xl_f hf v17 ex
                          refine lv_iinc (v := v17) (lv' := [(6, .int v17), (8, .int v8), (7, .int v3), (0, .ref (E.a q0)), (1, .ref (E.a q1)), (2, .int a2), (3, .int a3), (4, .int a4), (5, .int a5)]) hx hb dL_isNone_145 hl (k := 8) rfl (by rw [ex]; rfl) (by decide) rfl (fun ls hl => ?_)
                          clear ex
                          refine lv_goto (tgt := 26) hx hb dL_isNone_148 (by decide) ?_
                          exact ih26 a2 a3 a4 a5 v17 σ _ _ _ nc ns hw (lv_sub hl [3, 4, 5, 6, 7, 8, 0] rfl) hf (by omega) (by omega)
                        · replace hf := xif_neg c131 hf
                          refine lv_iload hx hb dL_isNone_134 (lv_at hl 0 rfl) ?_
                          refine lv_bipush (v := 10) hx hb dL_isNone_136 (by decide) ?_
                          refine lv_iload_n hx hb dL_isNone_138 rfl (lv_at hl 5 rfl) ?_
                          refine lv_imul hx hb dL_isNone_139 ?_
                          refine lv_icmp_gt (tgt := 145) hx hb dL_isNone_140 (by decide) (fun c140 => ?_) (fun c140 => ?_)
                          · replace hf := xif_pos c140 hf
                            obtain ⟨v18, ex⟩ : ∃ y : Int32, y = (a6 + 1) := ⟨_, rfl⟩
                            replace hf := xl_f hf v18 ex
                            refine lv_iinc (v := v18) (lv' := [(6, .int v18), (8, .int v8), (7, .int v3), (0, .ref (E.a q0)), (1, .ref (E.a q1)), (2, .int a2), (3, .int a3), (4, .int a4), (5, .int a5)]) hx hb dL_isNone_145 hl (k := 8) rfl (by rw [ex]; rfl) (by decide) rfl (fun ls hl => ?_)
                            clear ex
                            refine lv_goto (tgt := 26) hx hb dL_isNone_148 (by decide) ?_
                            exact ih26 a2 a3 a4 a5 v18 σ _ _ _ nc ns hw (lv_sub hl [3, 4, 5, 6, 7, 8, 0] rfl) hf (by omega) (by omega)
                          · replace hf := xif_neg c140 hf
                            refine lv_iconst (v := 0) hx hb dL_isNone_143 (by decide) ?_
                            exact x_Lzretc hx hb hr hlk hw (by decide) hf (show nc ≤ 0 by omega) (show ns ≤ 0 by omega) dL_isNone_144
          intro a2 a3 a4 a5 σ H locs ls nc ns hw hl hf hnc hns
          rw [fL_isNone_c13_s] at hf
          refine lv_iload hx hb dL_isNone_13 (lv_at hl 4 rfl) ?_
          refine lv_iload hx hb dL_isNone_15 (lv_at hl 5 rfl) ?_
          refine lv_iadd hx hb dL_isNone_17 ?_
          refine lv_bipush (v := 10) hx hb dL_isNone_18 (by decide) ?_
          refine lv_icmp_gt (tgt := 157) hx hb dL_isNone_20 (by decide) (fun c20 => ?_) (fun c20 => ?_)
          · replace hf := xif_pos c20 hf
            obtain ⟨v1, ex⟩ : ∃ y : Int32, y = (a4 + 1) := ⟨_, rfl⟩
            replace hf := xl_f hf v1 ex
            refine lv_iinc (v := v1) (lv' := [(4, .int v1), (0, .ref (E.a q0)), (1, .ref (E.a q1)), (2, .int a2), (3, .int a3), (5, .int a5)]) hx hb dL_isNone_157 hl (k := 4) rfl (by rw [ex]; rfl) (by decide) rfl (fun ls hl => ?_)
            clear ex
            refine lv_goto (tgt := 3) hx hb dL_isNone_160 (by decide) ?_
            exact ih3 a2 a3 v1 σ _ _ _ nc ns hw (lv_sub hl [1, 2, 3, 4, 0] rfl) hf (by omega) (by omega)
          · replace hf := xif_neg c20 hf
            refine lv_iconst (v := 0) hx hb dL_isNone_23 (by decide) ?_
            refine lv_istore (lv' := [(6, .int 0), (0, .ref (E.a q0)), (1, .ref (E.a q1)), (2, .int a2), (3, .int a3), (4, .int a4), (5, .int a5)]) hx hb dL_isNone_24 hl (by decide) rfl (fun ls hl => ?_)
            exact h26 xFU a2 a3 a4 a5 0 σ _ _ _ nc ns hw (lv_sub hl [1, 2, 3, 4, 5, 6, 0] rfl) hf (by omega) (by omega)
      intro a2 a3 a4 σ H locs ls nc ns hw hl hf hnc hns
      rw [fL_isNone_c3_s] at hf
      refine lv_iload hx hb dL_isNone_3 (lv_at hl 4 rfl) ?_
      refine lv_bipush (v := 10) hx hb dL_isNone_5 (by decide) ?_
      refine lv_icmp_gt (tgt := 163) hx hb dL_isNone_7 (by decide) (fun c7 => ?_) (fun c7 => ?_)
      · replace hf := xif_pos c7 hf
        refine lv_iconst (v := 1) hx hb dL_isNone_163 (by decide) ?_
        exact x_Lzretc hx hb hr hlk hw (by decide) hf (show nc ≤ 0 by omega) (show ns ≤ 0 by omega) dL_isNone_164
      · replace hf := xif_neg c7 hf
        refine lv_iconst (v := 0) hx hb dL_isNone_10 (by decide) ?_
        refine lv_istore (lv' := [(5, .int 0), (0, .ref (E.a q0)), (1, .ref (E.a q1)), (2, .int a2), (3, .int a3), (4, .int a4)]) hx hb dL_isNone_11 hl (by decide) rfl (fun ls hl => ?_)
        exact h13 xFU a2 a3 a4 0 σ _ _ _ nc ns hw (lv_sub hl [1, 2, 3, 4, 5, 0] rfl) hf (by omega) (by omega)
  refine lv_iconst (v := 0) hx hb dL_isNone_0 (by decide) ?_
  refine lv_istore (lv' := [(4, .int 0), (0, .ref (E.a q0)), (1, .ref (E.a q1)), (2, .int p2), (3, .int p3)]) hx hb dL_isNone_1 hl (by decide) rfl (fun ls hl => ?_)
  exact h3 xFU p2 p3 0 σ _ _ _ 0 0 hw (lv_sub hl [1, 2, 3, 4, 0] rfl) hf (by omega) (by omega)

def fL_isKept_c59 : Nat → Int32 → Int32 → Int32 → xSt → Option (Int32 × xSt)
  | 0 => fun _ _ _ _ => none
  | n + 1 => fun a1 a2 a3 σ => (if 8 ≤ a3 then (xco (fX11_book 0 σ) σ fun r14 σ15 => (if a1 = r14 then (xco (fX11_book 3 σ15) σ15 fun r16 σ17 => (if a2 = r16 then some (1, σ17) else some (0, σ17))) else some (0, σ15))) else (xco (fX11_store a3 σ) σ fun r18 σ19 => (xl (a2 + r18) fun v20 => (xl (a3 + 1) fun v21 => fL_isKept_c59 n a1 v20 v21 σ19))))
theorem fL_isKept_c59_s (n : Nat) (a1 : Int32) (a2 : Int32) (a3 : Int32) (σ : xSt) : fL_isKept_c59 (n + 1) a1 a2 a3 σ = ((if 8 ≤ a3 then (xco (fX11_book 0 σ) σ fun r14 σ15 => (if a1 = r14 then (xco (fX11_book 3 σ15) σ15 fun r16 σ17 => (if a2 = r16 then some (1, σ17) else some (0, σ17))) else some (0, σ15))) else (xco (fX11_store a3 σ) σ fun r18 σ19 => (xl (a2 + r18) fun v20 => (xl (a3 + 1) fun v21 => fL_isKept_c59 n a1 v20 v21 σ19)))) : Option (Int32 × xSt)) := rfl
def fL_isKept (σ : xSt) : Option (Int32 × xSt) := (xco (fX11_book 1 σ) σ fun r1 σ2 => (xco (fX11_book 2 σ2) σ2 fun r3 σ4 => (xco (fX11_book 3 σ4) σ4 fun r5 σ6 => (xco (fX11_book 4 σ6) σ6 fun r7 σ8 => (xco (fX11_book 5 σ8) σ8 fun r9 σ10 => (xco (fX11_book 6 σ10) σ10 fun r11 σ12 => (xl (((((r1 + r3) + r5) + r7) + r9) + r11) fun v13 => fL_isKept_c59 xF9 v13 0 0 σ12)))))))
abbrev rmL_isKept : Room := { frames := 9, cells := 17, slots := 102, locals := 151 }
set_option maxRecDepth 100000 in
set_option maxHeartbeats 8000000 in
theorem mL_isKept {l : Launch} (hl0 : l.stackTraces = false) {E : xE} (hE : xLE E) (σ : xSt) (o1 : Int32) (o2 : xSt) (hf : fL_isKept σ = some (o1, o2)) : xLi l yL_isKept wsL_isKept rmL_isKept E [.ref (E.a 52)] σ o1 o2 17 102 := by
  unfold fL_isKept at hf
  refine xLi_of (cc := cL_isKept) (maxL := 4) (ret := (some .boolean)) (by decide) rfl (Nat.le_of_ble_eq_true rfl) ?_
  intro p e s m args below meth c A ls ⟨hx, hb, hr, hml, hown, hts, hlk⟩ hA hGL hw hl
  have hG := hGL.1
  have eF9 : xF9 = 9 := rfl
  have hown : s.vm.findClass RL = some m.cls := hown
  have hl : lv_has ls 4 [(0, .ref (E.a 52))] := hl
  have hk10 := hts (.fieldLink RL 10 "OvenRoundLaw" "o" "LOvenRound;") (by decide +kernel)
  have hiL : ∀ w ∈ wsL0, w ∈ wsL_isKept := by decide +kernel
  have h59 : ∀ (n : Nat) (a1 : Int32) (a2 : Int32) (a3 : Int32) (σ : xSt) (H : Heap) (locs : List Loc) (ls : Array Slot) (nc ns : Nat), xw E A s.heap s σ H locs → lv_has ls 4 [(0, .ref (E.a 52)), (1, .int a1), (2, .int a2), (3, .int a3)] → fL_isKept_c59 n a1 a2 a3 σ = some (o1, o2) → nc + (2 + 1 * n) ≤ 17 → ns + (12 + 6 * n) ≤ 102 → W p l e rmL_isKept s m args below meth c H locs nc ns (MQ below (xQi E A o1 o2) args s 17 102 A) (F0 m 59 ls []) := by
    intro n59
    induction n59 with
    | zero => intro a1 a2 a3 σ H locs ls nc ns hw hl hf hnc hns; exact nomatch hf
    | succ n59 ih59 =>
      intro a1 a2 a3 σ H locs ls nc ns hw hl hf hnc hns
      rw [fL_isKept_c59_s] at hf
      refine lv_iload_n hx hb dL_isKept_59 rfl (lv_at hl 3 rfl) ?_
      refine lv_bipush (v := 8) hx hb dL_isKept_60 (by decide) ?_
      refine lv_icmp_ge (tgt := 82) hx hb dL_isKept_62 (by decide) (fun c62 => ?_) (fun c62 => ?_)
      · replace hf := xif_pos c62 hf
        refine lv_iload_n hx hb dL_isKept_82 rfl (lv_at hl 1 rfl) ?_
        refine lv_aload_n hx hb dL_isKept_83 rfl (lv_at hl 0 rfl) ?_
        refine x_getr hx hb hw (cL52 hE) (own := RL) (ref := RL) (C := RL) (T := TL) (N := 10) hts hiL hown rfl 0 (by decide) hk10 (fun _ h9 => h9) rfl dL_isKept_84 ?_
        refine lv_iconst (v := 0) hx hb dL_isKept_87 (by decide) ?_
        obtain ⟨r14, τ9, hcl, hf⟩ := xco_g hf
        refine x_tcallo (vx_runV (As := [.int 0]) (rest := [.int a1]) ⟨hx, hb, hml, hown, hts⟩ (mX11_book hl0 (E := xCut E σ) rfl 0 σ (.inl r14) τ9 hcl H.size) (cwV 1 hts gL_isKept_X11_book rfl rfl rfl (by decide +kernel) ⟨Nat.le_of_ble_eq_true rfl, Nat.le_of_ble_eq_true rfl⟩) (x_preV _ (xw_cut hE hw) hA hG (cX0 (E := xCut E σ) rfl) rfl) rfl rfl hl.1 rfl (lv_room (Nat.le_of_ble_eq_true rfl)) dL_isKept_88 ⟨show nc + 1 ≤ 17 by omega, show ns + 6 ≤ 102 by omega⟩) (xw_cut hE hw) hA (fun H locs hw => ?_)
        obtain ⟨σ15, eρ, hw⟩ := xw_unc2 hE hw
        replace hf := hf σ15 eρ
        clear eρ hcl
        refine lv_icmp_ne (tgt := 110) hx hb dL_isKept_91 (by decide) (fun c91 => ?_) (fun c91 => ?_)
        · replace hf := xif_neg c91 hf
          refine lv_iconst (v := 0) hx hb dL_isKept_110 (by decide) ?_
          exact x_Lzretc hx hb hr hlk hw (by decide) hf (show (nc + 1) ≤ 17 by omega) (show (ns + 6) ≤ 102 by omega) dL_isKept_111
        · replace hf := xif_pos c91 hf
          refine lv_iload_n hx hb dL_isKept_94 rfl (lv_at hl 2 rfl) ?_
          refine lv_aload_n hx hb dL_isKept_95 rfl (lv_at hl 0 rfl) ?_
          refine x_getr hx hb hw (cL52 hE) (own := RL) (ref := RL) (C := RL) (T := TL) (N := 10) hts hiL hown rfl 0 (by decide) hk10 (fun _ h9 => h9) rfl dL_isKept_96 ?_
          refine lv_iconst (v := 3) hx hb dL_isKept_99 (by decide) ?_
          obtain ⟨r16, τ9, hcl, hf⟩ := xco_g hf
          refine x_tcallo (vx_runV (As := [.int 3]) (rest := [.int a2]) ⟨hx, hb, hml, hown, hts⟩ (mX11_book hl0 (E := xCut E σ15) rfl 3 σ15 (.inl r16) τ9 hcl H.size) (cwV 1 hts gL_isKept_X11_book rfl rfl rfl (by decide +kernel) ⟨Nat.le_of_ble_eq_true rfl, Nat.le_of_ble_eq_true rfl⟩) (x_preV _ (xw_cut hE hw) hA hG (cX0 (E := xCut E σ15) rfl) rfl) rfl rfl hl.1 rfl (lv_room (Nat.le_of_ble_eq_true rfl)) dL_isKept_100 ⟨show (nc + 1) + 1 ≤ 17 by omega, show (ns + 6) + 6 ≤ 102 by omega⟩) (xw_cut hE hw) hA (fun H locs hw => ?_)
          obtain ⟨σ17, eρ, hw⟩ := xw_unc2 hE hw
          replace hf := hf σ17 eρ
          clear eρ hcl
          refine lv_icmp_ne (tgt := 110) hx hb dL_isKept_103 (by decide) (fun c103 => ?_) (fun c103 => ?_)
          · replace hf := xif_neg c103 hf
            refine lv_iconst (v := 0) hx hb dL_isKept_110 (by decide) ?_
            exact x_Lzretc hx hb hr hlk hw (by decide) hf (show ((nc + 1) + 1) ≤ 17 by omega) (show ((ns + 6) + 6) ≤ 102 by omega) dL_isKept_111
          · replace hf := xif_pos c103 hf
            refine lv_iconst (v := 1) hx hb dL_isKept_106 (by decide) ?_
            refine lv_goto (tgt := 111) hx hb dL_isKept_107 (by decide) ?_
            exact x_Lzretc hx hb hr hlk hw (by decide) hf (show ((nc + 1) + 1) ≤ 17 by omega) (show ((ns + 6) + 6) ≤ 102 by omega) dL_isKept_111
      · replace hf := xif_neg c62 hf
        refine lv_iload_n hx hb dL_isKept_65 rfl (lv_at hl 2 rfl) ?_
        refine lv_aload_n hx hb dL_isKept_66 rfl (lv_at hl 0 rfl) ?_
        refine x_getr hx hb hw (cL52 hE) (own := RL) (ref := RL) (C := RL) (T := TL) (N := 10) hts hiL hown rfl 0 (by decide) hk10 (fun _ h9 => h9) rfl dL_isKept_67 ?_
        refine lv_iload_n hx hb dL_isKept_70 rfl (lv_at hl 3 rfl) ?_
        obtain ⟨r18, τ9, hcl, hf⟩ := xco_g hf
        refine x_tcallo (vx_runV (As := [.int a3]) (rest := [.int a2]) ⟨hx, hb, hml, hown, hts⟩ (mX11_store hl0 (E := xCut E σ) rfl a3 σ (.inl r18) τ9 hcl H.size) (cwV 1 hts gL_isKept_X11_store rfl rfl rfl (by decide +kernel) ⟨Nat.le_of_ble_eq_true rfl, Nat.le_of_ble_eq_true rfl⟩) (x_preV _ (xw_cut hE hw) hA hG (cX0 (E := xCut E σ) rfl) rfl) rfl rfl hl.1 rfl (lv_room (Nat.le_of_ble_eq_true rfl)) dL_isKept_71 ⟨show nc + 1 ≤ 17 by omega, show ns + 6 ≤ 102 by omega⟩) (xw_cut hE hw) hA (fun H locs hw => ?_)
        obtain ⟨σ19, eρ, hw⟩ := xw_unc2 hE hw
        replace hf := hf σ19 eρ
        clear eρ hcl
        refine lv_iadd hx hb dL_isKept_74 ?_
        refine lv_topi (fun v20 ex => ?_)
        replace hf := xl_f hf v20 ex
        clear ex
        refine lv_istore_n (lv' := [(2, .int v20), (0, .ref (E.a 52)), (1, .int a1), (3, .int a3)]) hx hb dL_isKept_75 rfl hl (by decide) rfl (fun ls hl => ?_)
        obtain ⟨v21, ex⟩ : ∃ y : Int32, y = (a3 + 1) := ⟨_, rfl⟩
        replace hf := xl_f hf v21 ex
        refine lv_iinc (v := v21) (lv' := [(3, .int v21), (2, .int v20), (0, .ref (E.a 52)), (1, .int a1)]) hx hb dL_isKept_76 hl (k := 3) rfl (by rw [ex]; rfl) (by decide) rfl (fun ls hl => ?_)
        clear ex
        refine lv_goto (tgt := 59) hx hb dL_isKept_79 (by decide) ?_
        exact ih59 a1 v20 v21 σ19 _ _ _ (nc + 1) (ns + 6) hw (lv_sub hl [2, 3, 1, 0] rfl) hf (by omega) (by omega)
  refine lv_aload_n hx hb dL_isKept_0 rfl (lv_at hl 0 rfl) ?_
  refine x_getr hx hb hw (cL52 hE) (own := RL) (ref := RL) (C := RL) (T := TL) (N := 10) hts hiL hown rfl 0 (by decide) hk10 (fun _ h9 => h9) rfl dL_isKept_1 ?_
  refine lv_iconst (v := 1) hx hb dL_isKept_4 (by decide) ?_
  obtain ⟨r1, τ9, hcl, hf⟩ := xco_g hf
  refine x_tcallo (vx_runV (As := [.int 1]) (rest := []) ⟨hx, hb, hml, hown, hts⟩ (mX11_book hl0 (E := xCut E σ) rfl 1 σ (.inl r1) τ9 hcl s.heap.size) (cwV 1 hts gL_isKept_X11_book rfl rfl rfl (by decide +kernel) ⟨Nat.le_of_ble_eq_true rfl, Nat.le_of_ble_eq_true rfl⟩) (x_preV _ (xw_cut hE hw) hA hG (cX0 (E := xCut E σ) rfl) rfl) rfl rfl hl.1 rfl (lv_room (Nat.le_of_ble_eq_true rfl)) dL_isKept_5 ⟨show 0 + 1 ≤ 17 by omega, show 0 + 6 ≤ 102 by omega⟩) (xw_cut hE hw) hA (fun H locs hw => ?_)
  obtain ⟨σ2, eρ, hw⟩ := xw_unc2 hE hw
  replace hf := hf σ2 eρ
  clear eρ hcl
  refine lv_aload_n hx hb dL_isKept_8 rfl (lv_at hl 0 rfl) ?_
  refine x_getr hx hb hw (cL52 hE) (own := RL) (ref := RL) (C := RL) (T := TL) (N := 10) hts hiL hown rfl 0 (by decide) hk10 (fun _ h9 => h9) rfl dL_isKept_9 ?_
  refine lv_iconst (v := 2) hx hb dL_isKept_12 (by decide) ?_
  obtain ⟨r3, τ9, hcl, hf⟩ := xco_g hf
  refine x_tcallo (vx_runV (As := [.int 2]) (rest := [.int r1]) ⟨hx, hb, hml, hown, hts⟩ (mX11_book hl0 (E := xCut E σ2) rfl 2 σ2 (.inl r3) τ9 hcl H.size) (cwV 1 hts gL_isKept_X11_book rfl rfl rfl (by decide +kernel) ⟨Nat.le_of_ble_eq_true rfl, Nat.le_of_ble_eq_true rfl⟩) (x_preV _ (xw_cut hE hw) hA hG (cX0 (E := xCut E σ2) rfl) rfl) rfl rfl hl.1 rfl (lv_room (Nat.le_of_ble_eq_true rfl)) dL_isKept_13 ⟨show (0 + 1) + 1 ≤ 17 by omega, show (0 + 6) + 6 ≤ 102 by omega⟩) (xw_cut hE hw) hA (fun H locs hw => ?_)
  obtain ⟨σ4, eρ, hw⟩ := xw_unc2 hE hw
  replace hf := hf σ4 eρ
  clear eρ hcl
  refine lv_iadd hx hb dL_isKept_16 ?_
  refine lv_aload_n hx hb dL_isKept_17 rfl (lv_at hl 0 rfl) ?_
  refine x_getr hx hb hw (cL52 hE) (own := RL) (ref := RL) (C := RL) (T := TL) (N := 10) hts hiL hown rfl 0 (by decide) hk10 (fun _ h9 => h9) rfl dL_isKept_18 ?_
  refine lv_iconst (v := 3) hx hb dL_isKept_21 (by decide) ?_
  obtain ⟨r5, τ9, hcl, hf⟩ := xco_g hf
  refine x_tcallo (vx_runV (As := [.int 3]) (rest := [.int (r1 + r3)]) ⟨hx, hb, hml, hown, hts⟩ (mX11_book hl0 (E := xCut E σ4) rfl 3 σ4 (.inl r5) τ9 hcl H.size) (cwV 1 hts gL_isKept_X11_book rfl rfl rfl (by decide +kernel) ⟨Nat.le_of_ble_eq_true rfl, Nat.le_of_ble_eq_true rfl⟩) (x_preV _ (xw_cut hE hw) hA hG (cX0 (E := xCut E σ4) rfl) rfl) rfl rfl hl.1 rfl (lv_room (Nat.le_of_ble_eq_true rfl)) dL_isKept_22 ⟨show ((0 + 1) + 1) + 1 ≤ 17 by omega, show ((0 + 6) + 6) + 6 ≤ 102 by omega⟩) (xw_cut hE hw) hA (fun H locs hw => ?_)
  obtain ⟨σ6, eρ, hw⟩ := xw_unc2 hE hw
  replace hf := hf σ6 eρ
  clear eρ hcl
  refine lv_iadd hx hb dL_isKept_25 ?_
  refine lv_aload_n hx hb dL_isKept_26 rfl (lv_at hl 0 rfl) ?_
  refine x_getr hx hb hw (cL52 hE) (own := RL) (ref := RL) (C := RL) (T := TL) (N := 10) hts hiL hown rfl 0 (by decide) hk10 (fun _ h9 => h9) rfl dL_isKept_27 ?_
  refine lv_iconst (v := 4) hx hb dL_isKept_30 (by decide) ?_
  obtain ⟨r7, τ9, hcl, hf⟩ := xco_g hf
  refine x_tcallo (vx_runV (As := [.int 4]) (rest := [.int ((r1 + r3) + r5)]) ⟨hx, hb, hml, hown, hts⟩ (mX11_book hl0 (E := xCut E σ6) rfl 4 σ6 (.inl r7) τ9 hcl H.size) (cwV 1 hts gL_isKept_X11_book rfl rfl rfl (by decide +kernel) ⟨Nat.le_of_ble_eq_true rfl, Nat.le_of_ble_eq_true rfl⟩) (x_preV _ (xw_cut hE hw) hA hG (cX0 (E := xCut E σ6) rfl) rfl) rfl rfl hl.1 rfl (lv_room (Nat.le_of_ble_eq_true rfl)) dL_isKept_31 ⟨show (((0 + 1) + 1) + 1) + 1 ≤ 17 by omega, show (((0 + 6) + 6) + 6) + 6 ≤ 102 by omega⟩) (xw_cut hE hw) hA (fun H locs hw => ?_)
  obtain ⟨σ8, eρ, hw⟩ := xw_unc2 hE hw
  replace hf := hf σ8 eρ
  clear eρ hcl
  refine lv_iadd hx hb dL_isKept_34 ?_
  refine lv_aload_n hx hb dL_isKept_35 rfl (lv_at hl 0 rfl) ?_
  refine x_getr hx hb hw (cL52 hE) (own := RL) (ref := RL) (C := RL) (T := TL) (N := 10) hts hiL hown rfl 0 (by decide) hk10 (fun _ h9 => h9) rfl dL_isKept_36 ?_
  refine lv_iconst (v := 5) hx hb dL_isKept_39 (by decide) ?_
  obtain ⟨r9, τ9, hcl, hf⟩ := xco_g hf
  refine x_tcallo (vx_runV (As := [.int 5]) (rest := [.int (((r1 + r3) + r5) + r7)]) ⟨hx, hb, hml, hown, hts⟩ (mX11_book hl0 (E := xCut E σ8) rfl 5 σ8 (.inl r9) τ9 hcl H.size) (cwV 1 hts gL_isKept_X11_book rfl rfl rfl (by decide +kernel) ⟨Nat.le_of_ble_eq_true rfl, Nat.le_of_ble_eq_true rfl⟩) (x_preV _ (xw_cut hE hw) hA hG (cX0 (E := xCut E σ8) rfl) rfl) rfl rfl hl.1 rfl (lv_room (Nat.le_of_ble_eq_true rfl)) dL_isKept_40 ⟨show ((((0 + 1) + 1) + 1) + 1) + 1 ≤ 17 by omega, show ((((0 + 6) + 6) + 6) + 6) + 6 ≤ 102 by omega⟩) (xw_cut hE hw) hA (fun H locs hw => ?_)
  obtain ⟨σ10, eρ, hw⟩ := xw_unc2 hE hw
  replace hf := hf σ10 eρ
  clear eρ hcl
  refine lv_iadd hx hb dL_isKept_43 ?_
  refine lv_aload_n hx hb dL_isKept_44 rfl (lv_at hl 0 rfl) ?_
  refine x_getr hx hb hw (cL52 hE) (own := RL) (ref := RL) (C := RL) (T := TL) (N := 10) hts hiL hown rfl 0 (by decide) hk10 (fun _ h9 => h9) rfl dL_isKept_45 ?_
  refine lv_bipush (v := 6) hx hb dL_isKept_48 (by decide) ?_
  obtain ⟨r11, τ9, hcl, hf⟩ := xco_g hf
  refine x_tcallo (vx_runV (As := [.int 6]) (rest := [.int ((((r1 + r3) + r5) + r7) + r9)]) ⟨hx, hb, hml, hown, hts⟩ (mX11_book hl0 (E := xCut E σ10) rfl 6 σ10 (.inl r11) τ9 hcl H.size) (cwV 1 hts gL_isKept_X11_book rfl rfl rfl (by decide +kernel) ⟨Nat.le_of_ble_eq_true rfl, Nat.le_of_ble_eq_true rfl⟩) (x_preV _ (xw_cut hE hw) hA hG (cX0 (E := xCut E σ10) rfl) rfl) rfl rfl hl.1 rfl (lv_room (Nat.le_of_ble_eq_true rfl)) dL_isKept_50 ⟨show (((((0 + 1) + 1) + 1) + 1) + 1) + 1 ≤ 17 by omega, show (((((0 + 6) + 6) + 6) + 6) + 6) + 6 ≤ 102 by omega⟩) (xw_cut hE hw) hA (fun H locs hw => ?_)
  obtain ⟨σ12, eρ, hw⟩ := xw_unc2 hE hw
  replace hf := hf σ12 eρ
  clear eρ hcl
  refine lv_iadd hx hb dL_isKept_53 ?_
  refine lv_topi (fun v13 ex => ?_)
  replace hf := xl_f hf v13 ex
  clear ex
  refine lv_istore_n (lv' := [(1, .int v13), (0, .ref (E.a 52))]) hx hb dL_isKept_54 rfl hl (by decide) rfl (fun ls hl => ?_)
  refine lv_iconst (v := 0) hx hb dL_isKept_55 (by decide) ?_
  refine lv_istore_n (lv' := [(2, .int 0), (1, .int v13), (0, .ref (E.a 52))]) hx hb dL_isKept_56 rfl hl (by decide) rfl (fun ls hl => ?_)
  refine lv_iconst (v := 0) hx hb dL_isKept_57 (by decide) ?_
  refine lv_istore_n (lv' := [(3, .int 0), (2, .int 0), (1, .int v13), (0, .ref (E.a 52))]) hx hb dL_isKept_58 rfl hl (by decide) rfl (fun ls hl => ?_)
  exact h59 xF9 v13 0 0 σ12 _ _ _ ((((((0 + 1) + 1) + 1) + 1) + 1) + 1) ((((((0 + 6) + 6) + 6) + 6) + 6) + 6) hw (lv_sub hl [3, 2, 1, 0] rfl) hf (by omega) (by omega)
