def fX0_from_c5 : Nat → Int32 → Int32 → Int32 → xSt → Option (Int32 × xSt)
  | 0 => fun _ _ _ _ => none
  | n + 1 => fun a1 a3 a4 σ => (if 4 ≤ a4 then some (a3, σ) else (xr σ 28 24 ((a1 * 4) + a4) fun v1 => (xl (a3 + v1) fun v2 => (xl (a4 + 1) fun v3 => fX0_from_c5 n a1 v2 v3 σ))))
theorem fX0_from_c5_s (n : Nat) (a1 : Int32) (a3 : Int32) (a4 : Int32) (σ : xSt) : fX0_from_c5 (n + 1) a1 a3 a4 σ = ((if 4 ≤ a4 then some (a3, σ) else (xr σ 28 24 ((a1 * 4) + a4) fun v1 => (xl (a3 + v1) fun v2 => (xl (a4 + 1) fun v3 => fX0_from_c5 n a1 v2 v3 σ)))) : Option (Int32 × xSt)) := rfl
def fX0_from (p0 : Int32) (p1 : Int32) (σ : xSt) : Option (Int32 × xSt) := fX0_from_c5 xFU p0 0 p1 σ
abbrev rmX0_from : Room := { frames := 0, cells := 0, slots := 0, locals := 0 }
set_option maxRecDepth 100000 in
set_option maxHeartbeats 4000000 in
theorem mX0_from {l : Launch} {E : xE} (hE : E.sh = shX) (p0 : Int32) (p1 : Int32) (σ : xSt) (o1 : Int32) (o2 : xSt) (hf : fX0_from p0 p1 σ = some (o1, o2)) : xMi l yX0_from wsX0_from rmX0_from E [.ref (E.a 27), .int p0, .int p1] σ o1 o2 := by
  unfold fX0_from at hf
  refine xMi_of (cc := cX0_from) (maxL := 5) (ret := (some .int)) (by decide) rfl (Nat.le_of_ble_eq_true rfl) ?_
  intro p e s m args below meth c A ls ⟨hx, hb, hr, hml, hown, hts, hlk⟩ hA hG hw hl
  have hown : s.vm.findClass RX0 = some m.cls := hown
  have hl : lv_has ls 5 [(0, .ref (E.a 27)), (1, .int p0), (2, .int p1)] := hl
  have hk11 := hts (.fieldLink RX0 11 "OvenRound$Breads" "pieces" "[I") (by decide +kernel)
  have hiX0 : ∀ w ∈ wsX00, w ∈ wsX0_from := by decide +kernel
  have h5 : ∀ (n : Nat) (a1 : Int32) (a3 : Int32) (a4 : Int32) (σ : xSt) (H : Heap) (locs : List Loc) (ls : Array Slot), xw E A s.heap s σ H locs → lv_has ls 5 [(0, .ref (E.a 27)), (1, .int a1), (3, .int a3), (4, .int a4)] → fX0_from_c5 n a1 a3 a4 σ = some (o1, o2) → W p l e rmX0_from s m args below meth c H locs 0 0 (MQ below (xQi E A o1 o2) args s 0 0 A) (F0 m 5 ls []) := by
    intro n5
    induction n5 with
    | zero => intro a1 a3 a4 σ H locs ls hw hl hf; exact nomatch hf
    | succ n5 ih5 =>
      intro a1 a3 a4 σ H locs ls hw hl hf
      rw [fX0_from_c5_s] at hf
      refine lv_iload hx hb dX0_from_5 (lv_at hl 3 rfl) ?_
      refine lv_iconst (v := 4) hx hb dX0_from_7 (by decide) ?_
      refine lv_icmp_ge (tgt := 31) hx hb dX0_from_8 (by decide) (fun c8 => ?_) (fun c8 => ?_)
      · replace hf := xif_pos c8 hf
        refine lv_iload_n hx hb dX0_from_31 rfl (lv_at hl 2 rfl) ?_
        exact x_iret hx hb hr hlk hw hf dX0_from_32
      · replace hf := xif_neg c8 hf
        refine lv_iload_n hx hb dX0_from_11 rfl (lv_at hl 2 rfl) ?_
        refine lv_aload_n hx hb dX0_from_12 rfl (lv_at hl 0 rfl) ?_
        refine x_getr hx hb hw (cX27 hE) (own := RX0) (ref := RX0) (C := RX0) (T := TX0) (N := 1) hts hiX0 hown rfl 0 (by decide) hk11 (fun _ h9 => h9) rfl dX0_from_13 ?_
        refine lv_iload_n hx hb dX0_from_16 rfl (lv_at hl 1 rfl) ?_
        refine lv_iconst (v := 4) hx hb dX0_from_17 (by decide) ?_
        refine lv_imul hx hb dX0_from_18 ?_
        refine lv_iload hx hb dX0_from_19 (lv_at hl 3 rfl) ?_
        refine lv_iadd hx hb dX0_from_21 ?_
        obtain ⟨hin, hf⟩ := xr_f hf
        refine x_iald hx hb hw (cX28 hE) hin dX0_from_22 ?_
        refine lv_topi (fun v1 ex => ?_)
        replace hf := hf v1 ex
        clear ex hin
        refine lv_iadd hx hb dX0_from_23 ?_
        refine lv_topi (fun v2 ex => ?_)
        replace hf := xl_f hf v2 ex
        clear ex
        refine lv_istore_n (lv' := [(3, .int v2), (0, .ref (E.a 27)), (1, .int a1), (4, .int a4)]) hx hb dX0_from_24 rfl hl (by decide) rfl (fun ls hl => ?_)
        obtain ⟨v3, ex⟩ : ∃ y : Int32, y = (a4 + 1) := ⟨_, rfl⟩
        replace hf := xl_f hf v3 ex
        refine lv_iinc (v := v3) (lv' := [(4, .int v3), (3, .int v2), (0, .ref (E.a 27)), (1, .int a1)]) hx hb dX0_from_25 hl (k := 3) rfl (by rw [ex]; rfl) (by decide) rfl (fun ls hl => ?_)
        clear ex
        refine lv_goto (tgt := 5) hx hb dX0_from_28 (by decide) ?_
        exact ih5 a1 v2 v3 σ _ _ _ hw (lv_sub hl [2, 3, 1, 0] rfl) hf
  refine lv_iconst (v := 0) hx hb dX0_from_0 (by decide) ?_
  refine lv_istore_n (lv' := [(3, .int 0), (0, .ref (E.a 27)), (1, .int p0), (2, .int p1)]) hx hb dX0_from_1 rfl hl (by decide) rfl (fun ls hl => ?_)
  refine lv_iload_n hx hb dX0_from_2 rfl (lv_at hl 3 rfl) ?_
  refine lv_istore (lv' := [(4, .int p1), (3, .int 0), (0, .ref (E.a 27)), (1, .int p0), (2, .int p1)]) hx hb dX0_from_3 hl (by decide) rfl (fun ls hl => ?_)
  exact h5 xFU p0 0 p1 σ _ _ _ hw (lv_sub hl [2, 3, 1, 0] rfl) hf

def fX0_growOlder_c18 : Nat → Int32 → Int32 → Int32 → xSt → Option (Int32 × xSt)
  | 0 => fun _ _ _ _ => none
  | n + 1 => fun a2 a3 a4 σ => (if a4 ≤ 0 then (xs σ 28 24 a2 0 fun σ3 => some (a3, σ3)) else (xr σ 28 24 ((a2 + a4) - 1) fun v4 => (xs σ 28 24 (a2 + a4) v4 fun σ5 => (xl (a4 + (-1)) fun v6 => fX0_growOlder_c18 n a2 a3 v6 σ5))))
theorem fX0_growOlder_c18_s (n : Nat) (a2 : Int32) (a3 : Int32) (a4 : Int32) (σ : xSt) : fX0_growOlder_c18 (n + 1) a2 a3 a4 σ = ((if a4 ≤ 0 then (xs σ 28 24 a2 0 fun σ3 => some (a3, σ3)) else (xr σ 28 24 ((a2 + a4) - 1) fun v4 => (xs σ 28 24 (a2 + a4) v4 fun σ5 => (xl (a4 + (-1)) fun v6 => fX0_growOlder_c18 n a2 a3 v6 σ5)))) : Option (Int32 × xSt)) := rfl
def fX0_growOlder (p0 : Int32) (σ : xSt) : Option (Int32 × xSt) := (xl (p0 * 4) fun v1 => (xr σ 28 24 ((v1 + 4) - 1) fun v2 => fX0_growOlder_c18 xFU v1 v2 3 σ))
abbrev rmX0_growOlder : Room := { frames := 0, cells := 0, slots := 0, locals := 0 }
set_option maxRecDepth 100000 in
set_option maxHeartbeats 4000000 in
theorem mX0_growOlder {l : Launch} {E : xE} (hE : E.sh = shX) (p0 : Int32) (σ : xSt) (o1 : Int32) (o2 : xSt) (hf : fX0_growOlder p0 σ = some (o1, o2)) : xMi l yX0_growOlder wsX0_growOlder rmX0_growOlder E [.ref (E.a 27), .int p0] σ o1 o2 := by
  unfold fX0_growOlder at hf
  refine xMi_of (cc := cX0_growOlder) (maxL := 5) (ret := (some .int)) (by decide) rfl (Nat.le_of_ble_eq_true rfl) ?_
  intro p e s m args below meth c A ls ⟨hx, hb, hr, hml, hown, hts, hlk⟩ hA hG hw hl
  have hown : s.vm.findClass RX0 = some m.cls := hown
  have hl : lv_has ls 5 [(0, .ref (E.a 27)), (1, .int p0)] := hl
  have hk11 := hts (.fieldLink RX0 11 "OvenRound$Breads" "pieces" "[I") (by decide +kernel)
  have hiX0 : ∀ w ∈ wsX00, w ∈ wsX0_growOlder := by decide +kernel
  have h18 : ∀ (n : Nat) (a2 : Int32) (a3 : Int32) (a4 : Int32) (σ : xSt) (H : Heap) (locs : List Loc) (ls : Array Slot), xw E A s.heap s σ H locs → lv_has ls 5 [(0, .ref (E.a 27)), (2, .int a2), (3, .int a3), (4, .int a4)] → fX0_growOlder_c18 n a2 a3 a4 σ = some (o1, o2) → W p l e rmX0_growOlder s m args below meth c H locs 0 0 (MQ below (xQi E A o1 o2) args s 0 0 A) (F0 m 18 ls []) := by
    intro n18
    induction n18 with
    | zero => intro a2 a3 a4 σ H locs ls hw hl hf; exact nomatch hf
    | succ n18 ih18 =>
      intro a2 a3 a4 σ H locs ls hw hl hf
      rw [fX0_growOlder_c18_s] at hf
      refine lv_iload hx hb dX0_growOlder_18 (lv_at hl 3 rfl) ?_
      refine lv_if_le (tgt := 49) hx hb dX0_growOlder_20 (by decide) (fun c20 => ?_) (fun c20 => ?_)
      · replace hf := xif_pos c20 hf
        refine lv_aload_n hx hb dX0_growOlder_49 rfl (lv_at hl 0 rfl) ?_
        refine x_getr hx hb hw (cX27 hE) (own := RX0) (ref := RX0) (C := RX0) (T := TX0) (N := 1) hts hiX0 hown rfl 0 (by decide) hk11 (fun _ h9 => h9) rfl dX0_growOlder_50 ?_
        refine lv_iload_n hx hb dX0_growOlder_53 rfl (lv_at hl 1 rfl) ?_
        refine lv_iconst (v := 0) hx hb dX0_growOlder_54 (by decide) ?_
        obtain ⟨hin, hf⟩ := xs_f hf
        refine x_iast hx hb hw (cX28 hE) hin dX0_growOlder_55 (fun σ3 H locs ex hw => ?_)
        replace hf := hf σ3 ex
        clear ex hin
        refine lv_iload_n hx hb dX0_growOlder_56 rfl (lv_at hl 2 rfl) ?_
        exact x_iret hx hb hr hlk hw hf dX0_growOlder_57
      · replace hf := xif_neg c20 hf
        refine lv_aload_n hx hb dX0_growOlder_23 rfl (lv_at hl 0 rfl) ?_
        refine x_getr hx hb hw (cX27 hE) (own := RX0) (ref := RX0) (C := RX0) (T := TX0) (N := 1) hts hiX0 hown rfl 0 (by decide) hk11 (fun _ h9 => h9) rfl dX0_growOlder_24 ?_
        refine lv_iload_n hx hb dX0_growOlder_27 rfl (lv_at hl 1 rfl) ?_
        refine lv_iload hx hb dX0_growOlder_28 (lv_at hl 3 rfl) ?_
        refine lv_iadd hx hb dX0_growOlder_30 ?_
        refine lv_aload_n hx hb dX0_growOlder_31 rfl (lv_at hl 0 rfl) ?_
        refine x_getr hx hb hw (cX27 hE) (own := RX0) (ref := RX0) (C := RX0) (T := TX0) (N := 1) hts hiX0 hown rfl 0 (by decide) hk11 (fun _ h9 => h9) rfl dX0_growOlder_32 ?_
        refine lv_iload_n hx hb dX0_growOlder_35 rfl (lv_at hl 1 rfl) ?_
        refine lv_iload hx hb dX0_growOlder_36 (lv_at hl 3 rfl) ?_
        refine lv_iadd hx hb dX0_growOlder_38 ?_
        refine lv_iconst (v := 1) hx hb dX0_growOlder_39 (by decide) ?_
        refine lv_isub hx hb dX0_growOlder_40 ?_
        obtain ⟨hin, hf⟩ := xr_f hf
        refine x_iald hx hb hw (cX28 hE) hin dX0_growOlder_41 ?_
        refine lv_topi (fun v4 ex => ?_)
        replace hf := hf v4 ex
        clear ex hin
        obtain ⟨hin, hf⟩ := xs_f hf
        refine x_iast hx hb hw (cX28 hE) hin dX0_growOlder_42 (fun σ5 H locs ex hw => ?_)
        replace hf := hf σ5 ex
        clear ex hin
        obtain ⟨v6, ex⟩ : ∃ y : Int32, y = (a4 + (-1)) := ⟨_, rfl⟩
        replace hf := xl_f hf v6 ex
        refine lv_iinc (v := v6) (lv' := [(4, .int v6), (0, .ref (E.a 27)), (2, .int a2), (3, .int a3)]) hx hb dX0_growOlder_43 hl (k := 3) rfl (by rw [ex]; rfl) (by decide) rfl (fun ls hl => ?_)
        clear ex
        refine lv_goto (tgt := 18) hx hb dX0_growOlder_46 (by decide) ?_
        exact ih18 a2 a3 v6 σ5 _ _ _ hw (lv_sub hl [1, 2, 3, 0] rfl) hf
  refine lv_iload_n hx hb dX0_growOlder_0 rfl (lv_at hl 1 rfl) ?_
  refine lv_iconst (v := 4) hx hb dX0_growOlder_1 (by decide) ?_
  refine lv_imul hx hb dX0_growOlder_2 ?_
  refine lv_topi (fun v1 ex => ?_)
  replace hf := xl_f hf v1 ex
  clear ex
  refine lv_istore_n (lv' := [(2, .int v1), (0, .ref (E.a 27)), (1, .int p0)]) hx hb dX0_growOlder_3 rfl hl (by decide) rfl (fun ls hl => ?_)
  refine lv_aload_n hx hb dX0_growOlder_4 rfl (lv_at hl 1 rfl) ?_
  refine x_getr hx hb hw (cX27 hE) (own := RX0) (ref := RX0) (C := RX0) (T := TX0) (N := 1) hts hiX0 hown rfl 0 (by decide) hk11 (fun _ h9 => h9) rfl dX0_growOlder_5 ?_
  refine lv_iload_n hx hb dX0_growOlder_8 rfl (lv_at hl 0 rfl) ?_
  refine lv_iconst (v := 4) hx hb dX0_growOlder_9 (by decide) ?_
  refine lv_iadd hx hb dX0_growOlder_10 ?_
  refine lv_iconst (v := 1) hx hb dX0_growOlder_11 (by decide) ?_
  refine lv_isub hx hb dX0_growOlder_12 ?_
  obtain ⟨hin, hf⟩ := xr_f hf
  refine x_iald hx hb hw (cX28 hE) hin dX0_growOlder_13 ?_
  refine lv_topi (fun v2 ex => ?_)
  replace hf := hf v2 ex
  clear ex hin
  refine lv_istore_n (lv' := [(3, .int v2), (2, .int v1), (0, .ref (E.a 27)), (1, .int p0)]) hx hb dX0_growOlder_14 rfl hl (by decide) rfl (fun ls hl => ?_)
  refine lv_iconst (v := 3) hx hb dX0_growOlder_15 (by decide) ?_
  refine lv_istore (lv' := [(4, .int 3), (3, .int v2), (2, .int v1), (0, .ref (E.a 27)), (1, .int p0)]) hx hb dX0_growOlder_16 hl (by decide) rfl (fun ls hl => ?_)
  exact h18 xFU v1 v2 3 σ _ _ _ hw (lv_sub hl [3, 2, 1, 0] rfl) hf

def fX0_takeOldest_c8 : Nat → Int32 → Int32 → Int32 → Int32 → xSt → Option (Int32 × xSt)
  | 0 => fun _ _ _ _ _ => none
  | n + 1 => fun a1 a3 a4 a5 σ => (if a5 < 0 then some (a3, σ) else (if a4 ≤ 0 then some (a3, σ) else (xr σ 28 24 ((a1 * 4) + a5) fun v1 => (xl (if v1 < a4 then v1 else a4) fun v2 => (xl ((a1 * 4) + a5) fun v3 => (xr σ 28 24 v3 fun v4 => (xs σ 28 24 v3 (v4 - v2) fun σ5 => (xl (a4 - v2) fun v6 => (if v2 ≤ 0 then (xl (a5 + (-1)) fun v7 => fX0_takeOldest_c8 n a1 a3 v6 v7 σ5) else (if a3 = (-1) then (xl (a5 + (-1)) fun v9 => fX0_takeOldest_c8 n a1 a5 v6 v9 σ5) else (xl (a5 + (-1)) fun v8 => fX0_takeOldest_c8 n a1 a3 v6 v8 σ5)))))))))))
theorem fX0_takeOldest_c8_s (n : Nat) (a1 : Int32) (a3 : Int32) (a4 : Int32) (a5 : Int32) (σ : xSt) : fX0_takeOldest_c8 (n + 1) a1 a3 a4 a5 σ = ((if a5 < 0 then some (a3, σ) else (if a4 ≤ 0 then some (a3, σ) else (xr σ 28 24 ((a1 * 4) + a5) fun v1 => (xl (if v1 < a4 then v1 else a4) fun v2 => (xl ((a1 * 4) + a5) fun v3 => (xr σ 28 24 v3 fun v4 => (xs σ 28 24 v3 (v4 - v2) fun σ5 => (xl (a4 - v2) fun v6 => (if v2 ≤ 0 then (xl (a5 + (-1)) fun v7 => fX0_takeOldest_c8 n a1 a3 v6 v7 σ5) else (if a3 = (-1) then (xl (a5 + (-1)) fun v9 => fX0_takeOldest_c8 n a1 a5 v6 v9 σ5) else (xl (a5 + (-1)) fun v8 => fX0_takeOldest_c8 n a1 a3 v6 v8 σ5))))))))))) : Option (Int32 × xSt)) := rfl
def fX0_takeOldest (p0 : Int32) (p1 : Int32) (σ : xSt) : Option (Int32 × xSt) := fX0_takeOldest_c8 xFU p0 (-1) p1 3 σ
abbrev rmX0_takeOldest : Room := { frames := 1, cells := 0, slots := 0, locals := 32 }
set_option maxRecDepth 100000 in
set_option maxHeartbeats 4000000 in
theorem mX0_takeOldest {l : Launch} {E : xE} (hE : E.sh = shX) (p0 : Int32) (p1 : Int32) (σ : xSt) (o1 : Int32) (o2 : xSt) (hf : fX0_takeOldest p0 p1 σ = some (o1, o2)) : xMi l yX0_takeOldest wsX0_takeOldest rmX0_takeOldest E [.ref (E.a 27), .int p0, .int p1] σ o1 o2 := by
  unfold fX0_takeOldest at hf
  refine xMi_of (cc := cX0_takeOldest) (maxL := 7) (ret := (some .int)) (by decide) rfl (Nat.le_of_ble_eq_true rfl) ?_
  intro p e s m args below meth c A ls ⟨hx, hb, hr, hml, hown, hts, hlk⟩ hA hG hw hl
  have hown : s.vm.findClass RX0 = some m.cls := hown
  have hl : lv_has ls 7 [(0, .ref (E.a 27)), (1, .int p0), (2, .int p1)] := hl
  have hk11 := hts (.fieldLink RX0 11 "OvenRound$Breads" "pieces" "[I") (by decide +kernel)
  have hiX0 : ∀ w ∈ wsX00, w ∈ wsX0_takeOldest := by decide +kernel
  have h8 : ∀ (n : Nat) (a1 : Int32) (a3 : Int32) (a4 : Int32) (a5 : Int32) (σ : xSt) (H : Heap) (locs : List Loc) (ls : Array Slot), xw E A s.heap s σ H locs → lv_has ls 7 [(0, .ref (E.a 27)), (1, .int a1), (3, .int a3), (4, .int a4), (5, .int a5)] → fX0_takeOldest_c8 n a1 a3 a4 a5 σ = some (o1, o2) → W p l e rmX0_takeOldest s m args below meth c H locs 0 0 (MQ below (xQi E A o1 o2) args s 0 0 A) (F0 m 8 ls []) := by
    intro n8
    induction n8 with
    | zero => intro a1 a3 a4 a5 σ H locs ls hw hl hf; exact nomatch hf
    | succ n8 ih8 =>
      intro a1 a3 a4 a5 σ H locs ls hw hl hf
      rw [fX0_takeOldest_c8_s] at hf
      refine lv_iload hx hb dX0_takeOldest_8 (lv_at hl 4 rfl) ?_
      refine lv_if_lt (tgt := 78) hx hb dX0_takeOldest_10 (by decide) (fun c10 => ?_) (fun c10 => ?_)
      · replace hf := xif_pos c10 hf
        refine lv_iload_n hx hb dX0_takeOldest_78 rfl (lv_at hl 2 rfl) ?_
        exact x_iret hx hb hr hlk hw hf dX0_takeOldest_79
      · replace hf := xif_neg c10 hf
        refine lv_iload hx hb dX0_takeOldest_13 (lv_at hl 3 rfl) ?_
        refine lv_if_le (tgt := 78) hx hb dX0_takeOldest_15 (by decide) (fun c15 => ?_) (fun c15 => ?_)
        · replace hf := xif_pos c15 hf
          refine lv_iload_n hx hb dX0_takeOldest_78 rfl (lv_at hl 2 rfl) ?_
          exact x_iret hx hb hr hlk hw hf dX0_takeOldest_79
        · replace hf := xif_neg c15 hf
          refine lv_iload hx hb dX0_takeOldest_18 (lv_at hl 3 rfl) ?_
          refine lv_aload_n hx hb dX0_takeOldest_20 rfl (lv_at hl 0 rfl) ?_
          refine x_getr hx hb hw (cX27 hE) (own := RX0) (ref := RX0) (C := RX0) (T := TX0) (N := 1) hts hiX0 hown rfl 0 (by decide) hk11 (fun _ h9 => h9) rfl dX0_takeOldest_21 ?_
          refine lv_iload_n hx hb dX0_takeOldest_24 rfl (lv_at hl 1 rfl) ?_
          refine lv_iconst (v := 4) hx hb dX0_takeOldest_25 (by decide) ?_
          refine lv_imul hx hb dX0_takeOldest_26 ?_
          refine lv_iload hx hb dX0_takeOldest_27 (lv_at hl 4 rfl) ?_
          refine lv_iadd hx hb dX0_takeOldest_29 ?_
          obtain ⟨hin, hf⟩ := xr_f hf
          refine x_iald hx hb hw (cX28 hE) hin dX0_takeOldest_30 ?_
          refine lv_topi (fun v1 ex => ?_)
          replace hf := hf v1 ex
          clear ex hin
          refine va_mmin hx hb (hml.trans hl.1.symm) hown (hts (.methodLink RX0 15 Lib.Math.min.name) (by decide +kernel)) (hts (.static Lib.Math.min.name) (by decide +kernel)) (hts (.initialized "java/lang/Math") (by decide +kernel)) (hts (.code Lib.Math.min.name Lib.Math.min.code 2 (some .int)) (by decide +kernel)) (Nat.le_of_ble_eq_true rfl) (Nat.le_of_ble_eq_true rfl) (Nat.le_of_ble_eq_true rfl) (Nat.le_of_ble_eq_true rfl) dX0_takeOldest_31 ?_
          refine lv_topi (fun v2 ex => ?_)
          replace hf := xl_f hf v2 ex
          clear ex
          refine lv_istore (lv' := [(6, .int v2), (0, .ref (E.a 27)), (1, .int a1), (3, .int a3), (4, .int a4), (5, .int a5)]) hx hb dX0_takeOldest_34 hl (by decide) rfl (fun ls hl => ?_)
          refine lv_aload_n hx hb dX0_takeOldest_36 rfl (lv_at hl 1 rfl) ?_
          refine x_getr hx hb hw (cX27 hE) (own := RX0) (ref := RX0) (C := RX0) (T := TX0) (N := 1) hts hiX0 hown rfl 0 (by decide) hk11 (fun _ h9 => h9) rfl dX0_takeOldest_37 ?_
          refine lv_iload_n hx hb dX0_takeOldest_40 rfl (lv_at hl 2 rfl) ?_
          refine lv_iconst (v := 4) hx hb dX0_takeOldest_41 (by decide) ?_
          refine lv_imul hx hb dX0_takeOldest_42 ?_
          refine lv_iload hx hb dX0_takeOldest_43 (lv_at hl 5 rfl) ?_
          refine lv_iadd hx hb dX0_takeOldest_45 ?_
          refine lv_topi (fun v3 ex => ?_)
          replace hf := xl_f hf v3 ex
          clear ex
          refine lv_dup2_11 hx hb dX0_takeOldest_46 rfl rfl ?_
          obtain ⟨hin, hf⟩ := xr_f hf
          refine x_iald hx hb hw (cX28 hE) hin dX0_takeOldest_47 ?_
          refine lv_topi (fun v4 ex => ?_)
          replace hf := hf v4 ex
          clear ex hin
          refine lv_iload hx hb dX0_takeOldest_48 (lv_at hl 0 rfl) ?_
          refine lv_isub hx hb dX0_takeOldest_50 ?_
          obtain ⟨hin, hf⟩ := xs_f hf
          refine x_iast hx hb hw (cX28 hE) hin dX0_takeOldest_51 (fun σ5 H locs ex hw => ?_)
          replace hf := hf σ5 ex
          clear ex hin
          refine lv_iload hx hb dX0_takeOldest_52 (lv_at hl 4 rfl) ?_
          refine lv_iload hx hb dX0_takeOldest_54 (lv_at hl 0 rfl) ?_
          refine lv_isub hx hb dX0_takeOldest_56 ?_
          refine lv_topi (fun v6 ex => ?_)
          replace hf := xl_f hf v6 ex
          clear ex
          refine lv_istore (lv' := [(4, .int v6), (6, .int v2), (0, .ref (E.a 27)), (1, .int a1), (3, .int a3), (5, .int a5)]) hx hb dX0_takeOldest_57 hl (by decide) rfl (fun ls hl => ?_)
          refine lv_iload hx hb dX0_takeOldest_59 (lv_at hl 1 rfl) ?_
          refine lv_if_le (tgt := 72) hx hb dX0_takeOldest_61 (by decide) (fun c61 => ?_) (fun c61 => ?_)
          · replace hf := xif_pos c61 hf
            obtain ⟨v7, ex⟩ : ∃ y : Int32, y = (a5 + (-1)) := ⟨_, rfl⟩
            replace hf := xl_f hf v7 ex
            refine lv_iinc (v := v7) (lv' := [(5, .int v7), (4, .int v6), (6, .int v2), (0, .ref (E.a 27)), (1, .int a1), (3, .int a3)]) hx hb dX0_takeOldest_72 hl (k := 5) rfl (by rw [ex]; rfl) (by decide) rfl (fun ls hl => ?_)
            clear ex
            refine lv_goto (tgt := 8) hx hb dX0_takeOldest_75 (by decide) ?_
            exact ih8 a1 a3 v6 v7 σ5 _ _ _ hw (lv_sub hl [3, 4, 5, 1, 0] rfl) hf
          · replace hf := xif_neg c61 hf
            refine lv_iload_n hx hb dX0_takeOldest_64 rfl (lv_at hl 4 rfl) ?_
            refine lv_iconst (v := (-1)) hx hb dX0_takeOldest_65 (by decide) ?_
            refine lv_icmp_ne (tgt := 72) hx hb dX0_takeOldest_66 (by decide) (fun c66 => ?_) (fun c66 => ?_)
            · replace hf := xif_neg c66 hf
              obtain ⟨v8, ex⟩ : ∃ y : Int32, y = (a5 + (-1)) := ⟨_, rfl⟩
              replace hf := xl_f hf v8 ex
              refine lv_iinc (v := v8) (lv' := [(5, .int v8), (4, .int v6), (6, .int v2), (0, .ref (E.a 27)), (1, .int a1), (3, .int a3)]) hx hb dX0_takeOldest_72 hl (k := 5) rfl (by rw [ex]; rfl) (by decide) rfl (fun ls hl => ?_)
              clear ex
              refine lv_goto (tgt := 8) hx hb dX0_takeOldest_75 (by decide) ?_
              exact ih8 a1 a3 v6 v8 σ5 _ _ _ hw (lv_sub hl [3, 4, 5, 1, 0] rfl) hf
            · replace hf := xif_pos c66 hf
              refine lv_iload hx hb dX0_takeOldest_69 (lv_at hl 5 rfl) ?_
              refine lv_istore_n (lv' := [(3, .int a5), (4, .int v6), (6, .int v2), (0, .ref (E.a 27)), (1, .int a1), (5, .int a5)]) hx hb dX0_takeOldest_71 rfl hl (by decide) rfl (fun ls hl => ?_)
              obtain ⟨v9, ex⟩ : ∃ y : Int32, y = (a5 + (-1)) := ⟨_, rfl⟩
              replace hf := xl_f hf v9 ex
              refine lv_iinc (v := v9) (lv' := [(5, .int v9), (3, .int a5), (4, .int v6), (6, .int v2), (0, .ref (E.a 27)), (1, .int a1)]) hx hb dX0_takeOldest_72 hl (k := 5) rfl (by rw [ex]; rfl) (by decide) rfl (fun ls hl => ?_)
              clear ex
              refine lv_goto (tgt := 8) hx hb dX0_takeOldest_75 (by decide) ?_
              exact ih8 a1 a5 v6 v9 σ5 _ _ _ hw (lv_sub hl [4, 5, 1, 2, 0] rfl) hf
  refine lv_iconst (v := (-1)) hx hb dX0_takeOldest_0 (by decide) ?_
  refine lv_istore_n (lv' := [(3, .int (-1)), (0, .ref (E.a 27)), (1, .int p0), (2, .int p1)]) hx hb dX0_takeOldest_1 rfl hl (by decide) rfl (fun ls hl => ?_)
  refine lv_iload_n hx hb dX0_takeOldest_2 rfl (lv_at hl 3 rfl) ?_
  refine lv_istore (lv' := [(4, .int p1), (3, .int (-1)), (0, .ref (E.a 27)), (1, .int p0), (2, .int p1)]) hx hb dX0_takeOldest_3 hl (by decide) rfl (fun ls hl => ?_)
  refine lv_iconst (v := 3) hx hb dX0_takeOldest_5 (by decide) ?_
  refine lv_istore (lv' := [(5, .int 3), (4, .int p1), (3, .int (-1)), (0, .ref (E.a 27)), (1, .int p0), (2, .int p1)]) hx hb dX0_takeOldest_6 hl (by decide) rfl (fun ls hl => ?_)
  exact h8 xFU p0 (-1) p1 3 σ _ _ _ hw (lv_sub hl [3, 4, 2, 1, 0] rfl) hf

def fX0_save (p1 : Int32) (σ : xSt) : Option (Int32 × xSt) := (xcpy σ 28 24 0 1 1560 p1 24 fun σ1 => some ((p1 + 24), σ1))
abbrev rmX0_save : Room := { frames := 1, cells := 0, slots := 0, locals := 96 }
set_option maxRecDepth 100000 in
set_option maxHeartbeats 4000000 in
theorem mX0_save {l : Launch} {E : xE} (hE : E.sh = shX) (p1 : Int32) (σ : xSt) (o1 : Int32) (o2 : xSt) (hf : fX0_save p1 σ = some (o1, o2)) : xMi l yX0_save wsX0_save rmX0_save E [.ref (E.a 27), .ref (E.a 1), .int p1] σ o1 o2 := by
  unfold fX0_save at hf
  refine xMi_of (cc := cX0_save) (maxL := 3) (ret := (some .int)) (by decide) rfl (Nat.le_of_ble_eq_true rfl) ?_
  intro p e s m args below meth c A ls ⟨hx, hb, hr, hml, hown, hts, hlk⟩ hA hG hw hl
  have hown : s.vm.findClass RX0 = some m.cls := hown
  have hl : lv_has ls 3 [(0, .ref (E.a 27)), (1, .ref (E.a 1)), (2, .int p1)] := hl
  have hk11 := hts (.fieldLink RX0 11 "OvenRound$Breads" "pieces" "[I") (by decide +kernel)
  have hiX0 : ∀ w ∈ wsX00, w ∈ wsX0_save := by decide +kernel
  refine lv_aload_n hx hb dX0_save_0 rfl (lv_at hl 0 rfl) ?_
  refine x_getr hx hb hw (cX27 hE) (own := RX0) (ref := RX0) (C := RX0) (T := TX0) (N := 1) hts hiX0 hown rfl 0 (by decide) hk11 (fun _ h9 => h9) rfl dX0_save_1 ?_
  refine lv_iconst (v := 0) hx hb dX0_save_4 (by decide) ?_
  refine lv_aload_n hx hb dX0_save_5 rfl (lv_at hl 1 rfl) ?_
  refine lv_iload_n hx hb dX0_save_6 rfl (lv_at hl 2 rfl) ?_
  refine lv_bipush (v := 24) hx hb dX0_save_7 (by decide) ?_
  obtain ⟨hin, hf⟩ := xcpy_f hf
  refine x_copy hx hb (hml.trans hl.1.symm) hw hown (hts (.methodLink RX0 21 arraycopyName) (by decide +kernel)) (hts (.native arraycopyName) (by decide +kernel)) (hts (.static arraycopyName) (by decide +kernel)) (hts (.initialized "java/lang/System") (by decide +kernel)) (cX28 hE) (cX1 hE) hin (Nat.le_of_ble_eq_true rfl) (Nat.le_of_ble_eq_true rfl) dX0_save_9 (fun σ1 H locs ex hw => ?_)
  replace hf := hf σ1 ex
  clear ex hin
  refine lv_iload_n hx hb dX0_save_12 rfl (lv_at hl 2 rfl) ?_
  refine lv_bipush (v := 24) hx hb dX0_save_13 (by decide) ?_
  refine lv_iadd hx hb dX0_save_15 ?_
  exact x_iret hx hb hr hlk hw hf dX0_save_16

def fX0_load (p1 : Int32) (σ : xSt) : Option (Int32 × xSt) := (xcpy σ 1 1560 p1 28 24 0 24 fun σ1 => some ((p1 + 24), σ1))
abbrev rmX0_load : Room := { frames := 1, cells := 0, slots := 0, locals := 96 }
set_option maxRecDepth 100000 in
set_option maxHeartbeats 4000000 in
theorem mX0_load {l : Launch} {E : xE} (hE : E.sh = shX) (p1 : Int32) (σ : xSt) (o1 : Int32) (o2 : xSt) (hf : fX0_load p1 σ = some (o1, o2)) : xMi l yX0_load wsX0_load rmX0_load E [.ref (E.a 27), .ref (E.a 1), .int p1] σ o1 o2 := by
  unfold fX0_load at hf
  refine xMi_of (cc := cX0_load) (maxL := 3) (ret := (some .int)) (by decide) rfl (Nat.le_of_ble_eq_true rfl) ?_
  intro p e s m args below meth c A ls ⟨hx, hb, hr, hml, hown, hts, hlk⟩ hA hG hw hl
  have hown : s.vm.findClass RX0 = some m.cls := hown
  have hl : lv_has ls 3 [(0, .ref (E.a 27)), (1, .ref (E.a 1)), (2, .int p1)] := hl
  have hk11 := hts (.fieldLink RX0 11 "OvenRound$Breads" "pieces" "[I") (by decide +kernel)
  have hiX0 : ∀ w ∈ wsX00, w ∈ wsX0_load := by decide +kernel
  refine lv_aload_n hx hb dX0_load_0 rfl (lv_at hl 1 rfl) ?_
  refine lv_iload_n hx hb dX0_load_1 rfl (lv_at hl 2 rfl) ?_
  refine lv_aload_n hx hb dX0_load_2 rfl (lv_at hl 0 rfl) ?_
  refine x_getr hx hb hw (cX27 hE) (own := RX0) (ref := RX0) (C := RX0) (T := TX0) (N := 1) hts hiX0 hown rfl 0 (by decide) hk11 (fun _ h9 => h9) rfl dX0_load_3 ?_
  refine lv_iconst (v := 0) hx hb dX0_load_6 (by decide) ?_
  refine lv_bipush (v := 24) hx hb dX0_load_7 (by decide) ?_
  obtain ⟨hin, hf⟩ := xcpy_f hf
  refine x_copy hx hb (hml.trans hl.1.symm) hw hown (hts (.methodLink RX0 21 arraycopyName) (by decide +kernel)) (hts (.native arraycopyName) (by decide +kernel)) (hts (.static arraycopyName) (by decide +kernel)) (hts (.initialized "java/lang/System") (by decide +kernel)) (cX1 hE) (cX28 hE) hin (Nat.le_of_ble_eq_true rfl) (Nat.le_of_ble_eq_true rfl) dX0_load_9 (fun σ1 H locs ex hw => ?_)
  replace hf := hf σ1 ex
  clear ex hin
  refine lv_iload_n hx hb dX0_load_12 rfl (lv_at hl 2 rfl) ?_
  refine lv_bipush (v := 24) hx hb dX0_load_13 (by decide) ?_
  refine lv_iadd hx hb dX0_load_15 ?_
  exact x_iret hx hb hr hlk hw hf dX0_load_16

def fX1_minutesBetween (p0 : Int32) (p1 : Int32) (σ : xSt) : Option (Int32 × xSt) := (xr σ 39 8 p0 fun v1 => (xr σ 39 8 p1 fun v2 => (xl (v1 - v2) fun v3 => (xl (if 0 ≤ v3 then v3 else 0 - v3) fun v4 => (xr σ 40 8 p0 fun v5 => (xr σ 40 8 p1 fun v6 => (xl (v5 - v6) fun v7 => (xl (if 0 ≤ v7 then v7 else 0 - v7) fun v8 => some ((v4 + v8), σ)))))))))
abbrev rmX1_minutesBetween : Room := { frames := 1, cells := 0, slots := 0, locals := 32 }
set_option maxRecDepth 100000 in
set_option maxHeartbeats 4000000 in
theorem mX1_minutesBetween {l : Launch} {E : xE} (hE : E.sh = shX) (p0 : Int32) (p1 : Int32) (σ : xSt) (o1 : Int32) (o2 : xSt) (hf : fX1_minutesBetween p0 p1 σ = some (o1, o2)) : xMi l yX1_minutesBetween wsX1_minutesBetween rmX1_minutesBetween E [.ref (E.a 38), .int p0, .int p1] σ o1 o2 := by
  unfold fX1_minutesBetween at hf
  refine xMi_of (cc := cX1_minutesBetween) (maxL := 3) (ret := (some .int)) (by decide) rfl (Nat.le_of_ble_eq_true rfl) ?_
  intro p e s m args below meth c A ls ⟨hx, hb, hr, hml, hown, hts, hlk⟩ hA hG hw hl
  have hown : s.vm.findClass RX1 = some m.cls := hown
  have hl : lv_has ls 3 [(0, .ref (E.a 38)), (1, .int p0), (2, .int p1)] := hl
  have hk9 := hts (.fieldLink RX1 9 "OvenRound$Cart" "x" "[I") (by decide +kernel)
  have hiX1 : ∀ w ∈ wsX10, w ∈ wsX1_minutesBetween := by decide +kernel
  have hk15 := hts (.fieldLink RX1 15 "OvenRound$Cart" "y" "[I") (by decide +kernel)
  refine lv_aload_n hx hb dX1_minutesBetween_0 rfl (lv_at hl 0 rfl) ?_
  refine x_getr hx hb hw (cX38 hE) (own := RX1) (ref := RX1) (C := RX1) (T := TX1) (N := 9) hts hiX1 hown rfl 0 (by decide) hk9 (fun _ h9 => h9) rfl dX1_minutesBetween_1 ?_
  refine lv_iload_n hx hb dX1_minutesBetween_4 rfl (lv_at hl 1 rfl) ?_
  obtain ⟨hin, hf⟩ := xr_f hf
  refine x_iald hx hb hw (cX39 hE) hin dX1_minutesBetween_5 ?_
  refine lv_topi (fun v1 ex => ?_)
  replace hf := hf v1 ex
  clear ex hin
  refine lv_aload_n hx hb dX1_minutesBetween_6 rfl (lv_at hl 0 rfl) ?_
  refine x_getr hx hb hw (cX38 hE) (own := RX1) (ref := RX1) (C := RX1) (T := TX1) (N := 9) hts hiX1 hown rfl 0 (by decide) hk9 (fun _ h9 => h9) rfl dX1_minutesBetween_7 ?_
  refine lv_iload_n hx hb dX1_minutesBetween_10 rfl (lv_at hl 2 rfl) ?_
  obtain ⟨hin, hf⟩ := xr_f hf
  refine x_iald hx hb hw (cX39 hE) hin dX1_minutesBetween_11 ?_
  refine lv_topi (fun v2 ex => ?_)
  replace hf := hf v2 ex
  clear ex hin
  refine lv_isub hx hb dX1_minutesBetween_12 ?_
  refine lv_topi (fun v3 ex => ?_)
  replace hf := xl_f hf v3 ex
  clear ex
  refine va_mabs hx hb (hml.trans hl.1.symm) hown (hts (.methodLink RX1 58 Lib.Math.abs.name) (by decide +kernel)) (hts (.static Lib.Math.abs.name) (by decide +kernel)) (hts (.initialized "java/lang/Math") (by decide +kernel)) (hts (.code Lib.Math.abs.name Lib.Math.abs.code 1 (some .int)) (by decide +kernel)) (Nat.le_of_ble_eq_true rfl) (Nat.le_of_ble_eq_true rfl) (Nat.le_of_ble_eq_true rfl) (Nat.le_of_ble_eq_true rfl) dX1_minutesBetween_13 ?_
  refine lv_topi (fun v4 ex => ?_)
  replace hf := xl_f hf v4 ex
  clear ex
  refine lv_aload_n hx hb dX1_minutesBetween_16 rfl (lv_at hl 0 rfl) ?_
  refine x_getr hx hb hw (cX38 hE) (own := RX1) (ref := RX1) (C := RX1) (T := TX1) (N := 9) hts hiX1 hown rfl 1 (by decide) hk15 (fun _ h9 => h9) rfl dX1_minutesBetween_17 ?_
  refine lv_iload_n hx hb dX1_minutesBetween_20 rfl (lv_at hl 1 rfl) ?_
  obtain ⟨hin, hf⟩ := xr_f hf
  refine x_iald hx hb hw (cX40 hE) hin dX1_minutesBetween_21 ?_
  refine lv_topi (fun v5 ex => ?_)
  replace hf := hf v5 ex
  clear ex hin
  refine lv_aload_n hx hb dX1_minutesBetween_22 rfl (lv_at hl 0 rfl) ?_
  refine x_getr hx hb hw (cX38 hE) (own := RX1) (ref := RX1) (C := RX1) (T := TX1) (N := 9) hts hiX1 hown rfl 1 (by decide) hk15 (fun _ h9 => h9) rfl dX1_minutesBetween_23 ?_
  refine lv_iload_n hx hb dX1_minutesBetween_26 rfl (lv_at hl 2 rfl) ?_
  obtain ⟨hin, hf⟩ := xr_f hf
  refine x_iald hx hb hw (cX40 hE) hin dX1_minutesBetween_27 ?_
  refine lv_topi (fun v6 ex => ?_)
  replace hf := hf v6 ex
  clear ex hin
  refine lv_isub hx hb dX1_minutesBetween_28 ?_
  refine lv_topi (fun v7 ex => ?_)
  replace hf := xl_f hf v7 ex
  clear ex
  refine va_mabs hx hb (hml.trans hl.1.symm) hown (hts (.methodLink RX1 58 Lib.Math.abs.name) (by decide +kernel)) (hts (.static Lib.Math.abs.name) (by decide +kernel)) (hts (.initialized "java/lang/Math") (by decide +kernel)) (hts (.code Lib.Math.abs.name Lib.Math.abs.code 1 (some .int)) (by decide +kernel)) (Nat.le_of_ble_eq_true rfl) (Nat.le_of_ble_eq_true rfl) (Nat.le_of_ble_eq_true rfl) (Nat.le_of_ble_eq_true rfl) dX1_minutesBetween_29 ?_
  refine lv_topi (fun v8 ex => ?_)
  replace hf := xl_f hf v8 ex
  clear ex
  refine lv_iadd hx hb dX1_minutesBetween_32 ?_
  exact x_iret hx hb hr hlk hw hf dX1_minutesBetween_33

def fX1_leaves (p0 : Int32) (p1 : Int32) (p2 : Int32) (σ : xSt) : Option (Int32 × xSt) := (xc2 (fX1_minutesBetween p1 p0 σ) fun r1 σ2 => (xl (p2 + r1) fun v3 => (xr σ2 42 7 p0 fun v4 => (if v3 ≤ v4 then (xr σ2 41 7 p0 fun v5 => (xl (if v3 < v5 then v5 else v3) fun v6 => (xr σ2 43 7 p0 fun v7 => some ((v6 + v7), σ2)))) else some ((-1), σ2)))))
abbrev rmX1_leaves : Room := { frames := 2, cells := 0, slots := 0, locals := 54 }
set_option maxRecDepth 100000 in
set_option maxHeartbeats 4000000 in
theorem mX1_leaves {l : Launch} {E : xE} (hE : E.sh = shX) (p0 : Int32) (p1 : Int32) (p2 : Int32) (σ : xSt) (o1 : Int32) (o2 : xSt) (hf : fX1_leaves p0 p1 p2 σ = some (o1, o2)) : xMi l yX1_leaves wsX1_leaves rmX1_leaves E [.ref (E.a 38), .int p0, .int p1, .int p2] σ o1 o2 := by
  unfold fX1_leaves at hf
  refine xMi_of (cc := cX1_leaves) (maxL := 5) (ret := (some .int)) (by decide) rfl (Nat.le_of_ble_eq_true rfl) ?_
  intro p e s m args below meth c A ls ⟨hx, hb, hr, hml, hown, hts, hlk⟩ hA hG hw hl
  have hown : s.vm.findClass RX1 = some m.cls := hown
  have hl : lv_has ls 5 [(0, .ref (E.a 38)), (1, .int p0), (2, .int p1), (3, .int p2)] := hl
  have hk21 := hts (.fieldLink RX1 21 "OvenRound$Cart" "closing" "[I") (by decide +kernel)
  have hiX1 : ∀ w ∈ wsX10, w ∈ wsX1_leaves := by decide +kernel
  have hk18 := hts (.fieldLink RX1 18 "OvenRound$Cart" "opening" "[I") (by decide +kernel)
  have hk24 := hts (.fieldLink RX1 24 "OvenRound$Cart" "stay" "[I") (by decide +kernel)
  refine lv_iload_n hx hb dX1_leaves_0 rfl (lv_at hl 3 rfl) ?_
  refine lv_aload_n hx hb dX1_leaves_1 rfl (lv_at hl 0 rfl) ?_
  refine lv_iload_n hx hb dX1_leaves_2 rfl (lv_at hl 2 rfl) ?_
  refine lv_iload_n hx hb dX1_leaves_3 rfl (lv_at hl 1 rfl) ?_
  obtain ⟨r1, σ2, hcl, hf⟩ := xc2_f hf
  refine x_calli (va_runV (As := [.int p1, .int p0]) (rest := [.int p2]) ⟨hx, hb, hml, hown, hts⟩ (mX1_minutesBetween hE p1 p0 σ r1 σ2 hcl s.heap.size) (cwV 2 hts gX1_leaves_X1_minutesBetween rfl rfl rfl (by decide +kernel) ⟨Nat.le_of_ble_eq_true rfl, Nat.le_of_ble_eq_true rfl⟩) (x_preV _ hw hA hG (cX38 hE) rfl) rfl rfl hl.1 rfl (lv_room (Nat.le_of_ble_eq_true rfl)) dX1_leaves_4 ⟨Nat.le_of_ble_eq_true rfl, Nat.le_of_ble_eq_true rfl⟩) hw hA (fun H locs hw => ?_)
  clear hcl
  refine lv_iadd hx hb dX1_leaves_7 ?_
  refine lv_topi (fun v3 ex => ?_)
  replace hf := xl_f hf v3 ex
  clear ex
  refine lv_istore (lv' := [(4, .int v3), (0, .ref (E.a 38)), (1, .int p0), (2, .int p1), (3, .int p2)]) hx hb dX1_leaves_8 hl (by decide) rfl (fun ls hl => ?_)
  refine lv_iload hx hb dX1_leaves_10 (lv_at hl 0 rfl) ?_
  refine lv_aload_n hx hb dX1_leaves_12 rfl (lv_at hl 1 rfl) ?_
  refine x_getr hx hb hw (cX38 hE) (own := RX1) (ref := RX1) (C := RX1) (T := TX1) (N := 9) hts hiX1 hown rfl 3 (by decide) hk21 (fun _ h9 => h9) rfl dX1_leaves_13 ?_
  refine lv_iload_n hx hb dX1_leaves_16 rfl (lv_at hl 2 rfl) ?_
  obtain ⟨hin, hf⟩ := xr_f hf
  refine x_iald hx hb hw (cX42 hE) hin dX1_leaves_17 ?_
  refine lv_topi (fun v4 ex => ?_)
  replace hf := hf v4 ex
  clear ex hin
  refine lv_icmp_le (tgt := 23) hx hb dX1_leaves_18 (by decide) (fun c18 => ?_) (fun c18 => ?_)
  · replace hf := xif_pos c18 hf
    refine lv_iload hx hb dX1_leaves_23 (lv_at hl 0 rfl) ?_
    refine lv_aload_n hx hb dX1_leaves_25 rfl (lv_at hl 1 rfl) ?_
    refine x_getr hx hb hw (cX38 hE) (own := RX1) (ref := RX1) (C := RX1) (T := TX1) (N := 9) hts hiX1 hown rfl 2 (by decide) hk18 (fun _ h9 => h9) rfl dX1_leaves_26 ?_
    refine lv_iload_n hx hb dX1_leaves_29 rfl (lv_at hl 2 rfl) ?_
    obtain ⟨hin, hf⟩ := xr_f hf
    refine x_iald hx hb hw (cX41 hE) hin dX1_leaves_30 ?_
    refine lv_topi (fun v5 ex => ?_)
    replace hf := hf v5 ex
    clear ex hin
    refine va_mmax hx hb (hml.trans hl.1.symm) hown (hts (.methodLink RX1 64 Lib.Math.max.name) (by decide +kernel)) (hts (.static Lib.Math.max.name) (by decide +kernel)) (hts (.initialized "java/lang/Math") (by decide +kernel)) (hts (.code Lib.Math.max.name Lib.Math.max.code 2 (some .int)) (by decide +kernel)) (Nat.le_of_ble_eq_true rfl) (Nat.le_of_ble_eq_true rfl) (Nat.le_of_ble_eq_true rfl) (Nat.le_of_ble_eq_true rfl) dX1_leaves_31 ?_
    refine lv_topi (fun v6 ex => ?_)
    replace hf := xl_f hf v6 ex
    clear ex
    refine lv_aload_n hx hb dX1_leaves_34 rfl (lv_at hl 1 rfl) ?_
    refine x_getr hx hb hw (cX38 hE) (own := RX1) (ref := RX1) (C := RX1) (T := TX1) (N := 9) hts hiX1 hown rfl 4 (by decide) hk24 (fun _ h9 => h9) rfl dX1_leaves_35 ?_
    refine lv_iload_n hx hb dX1_leaves_38 rfl (lv_at hl 2 rfl) ?_
    obtain ⟨hin, hf⟩ := xr_f hf
    refine x_iald hx hb hw (cX43 hE) hin dX1_leaves_39 ?_
    refine lv_topi (fun v7 ex => ?_)
    replace hf := hf v7 ex
    clear ex hin
    refine lv_iadd hx hb dX1_leaves_40 ?_
    exact x_iret hx hb hr hlk hw hf dX1_leaves_41
  · replace hf := xif_neg c18 hf
    refine lv_iconst (v := (-1)) hx hb dX1_leaves_21 (by decide) ?_
    exact x_iret hx hb hr hlk hw hf dX1_leaves_22

def fX1_goOn_c142 (fr : (Int32 → Int32 → Int32 → xSt → Option xSt)) (k111 : (Int32 → Int32 → Int32 → Int32 → Int32 → xSt → Option xSt)) (a1 : Int32) (a2 : Int32) (a3 : Int32) (a4 : Int32) (a7 : Int32) (t0 : Int32) (σ : xSt) : Option xSt := (if t0 = (-1) then (xl (a7 + 1) fun v9 => k111 a1 a2 a3 a4 v9 σ) else (xs σ 45 7 a1 a7 fun σ10 => (xc (fr (a1 + 1) (a2 ||| (1 <<< (a7 &&& 31))) t0 σ10) fun σ12 => (xl (a7 + 1) fun v13 => k111 a1 a2 a3 a4 v13 σ12))))
def fX1_goOn_c111 (fr : (Int32 → Int32 → Int32 → xSt → Option xSt)) : Nat → Int32 → Int32 → Int32 → Int32 → Int32 → xSt → Option xSt
  | 0 => fun _ _ _ _ _ _ => none
  | n + 1 => fun a1 a2 a3 a4 a7 σ => (if (σ 38 5) ≤ a7 then some σ else (if ((a2 >>> (a7 &&& 31)) &&& 1) = 0 then (xc2 (fX1_leaves a7 a4 a3 σ) fun r7 σ8 => fX1_goOn_c142 fr (fX1_goOn_c111 fr n) a1 a2 a3 a4 a7 r7 σ8) else fX1_goOn_c142 fr (fX1_goOn_c111 fr n) a1 a2 a3 a4 a7 (-1) σ))
theorem fX1_goOn_c111_s (fr : (Int32 → Int32 → Int32 → xSt → Option xSt)) (n : Nat) (a1 : Int32) (a2 : Int32) (a3 : Int32) (a4 : Int32) (a7 : Int32) (σ : xSt) : fX1_goOn_c111 fr (n + 1) a1 a2 a3 a4 a7 σ = ((if (σ 38 5) ≤ a7 then some σ else (if ((a2 >>> (a7 &&& 31)) &&& 1) = 0 then (xc2 (fX1_leaves a7 a4 a3 σ) fun r7 σ8 => fX1_goOn_c142 fr (fX1_goOn_c111 fr n) a1 a2 a3 a4 a7 r7 σ8) else fX1_goOn_c142 fr (fX1_goOn_c111 fr n) a1 a2 a3 a4 a7 (-1) σ)) : Option xSt) := rfl
def fX1_goOn_c75 (fr : (Int32 → Int32 → Int32 → xSt → Option xSt)) (a5 : Int32) (a6 : Int32) (σ : xSt) : Option xSt := (if a6 = 0 then some σ else (xp σ 38 7 a5 fun σ5 => (xcpy σ5 45 7 0 44 7 0 7 fun σ6 => some σ6)))
def fX1_goOn_c59 (fr : (Int32 → Int32 → Int32 → xSt → Option xSt)) (a1 : Int32) (a2 : Int32) (a3 : Int32) (a4 : Int32) (a5 : Int32) (t0 : Int32) (σ : xSt) : Option xSt := (if (σ 38 5) ≤ a1 then fX1_goOn_c75 fr a5 t0 σ else (if a1 < 7 then (if t0 = 0 then some σ else fX1_goOn_c111 fr xFU a1 a2 a3 a4 0 σ) else fX1_goOn_c75 fr a5 t0 σ))
def fX1_goOn_c54 (fr : (Int32 → Int32 → Int32 → xSt → Option xSt)) (a1 : Int32) (a2 : Int32) (a3 : Int32) (a4 : Int32) (a5 : Int32) (σ : xSt) : Option xSt := fX1_goOn_c59 fr a1 a2 a3 a4 a5 1 σ
def fX1_goOn_c23 (fr : (Int32 → Int32 → Int32 → xSt → Option xSt)) (a1 : Int32) (a2 : Int32) (a3 : Int32) (t0 : Int32) (σ : xSt) : Option xSt := (xc2 (fX1_minutesBetween t0 7 σ) fun r2 σ3 => (xl (a3 + r2) fun v4 => (if (σ3 38 7) = (-1) then fX1_goOn_c54 fr a1 a2 a3 t0 v4 σ3 else (if (σ3 38 7) ≤ v4 then fX1_goOn_c59 fr a1 a2 a3 t0 v4 0 σ3 else fX1_goOn_c54 fr a1 a2 a3 t0 v4 σ3))))
def fX1_goOn_c21 (fr : (Int32 → Int32 → Int32 → xSt → Option xSt)) (a1 : Int32) (a2 : Int32) (a3 : Int32) (σ : xSt) : Option xSt := fX1_goOn_c23 fr a1 a2 a3 7 σ
def fX1_goOn : Nat → Int32 → Int32 → Int32 → xSt → Option xSt
  | 0 => fun _ _ _ _ => none
  | d + 1 => fun p1 p2 p3 σ => (if p1 ≤ 0 then fX1_goOn_c21 (fX1_goOn d) p1 p2 p3 σ else (if 7 < p1 then fX1_goOn_c21 (fX1_goOn d) p1 p2 p3 σ else (xr σ 45 7 (p1 - 1) fun v1 => fX1_goOn_c23 (fX1_goOn d) p1 p2 p3 v1 σ)))
theorem fX1_goOn_s (d : Nat) (p1 : Int32) (p2 : Int32) (p3 : Int32) (σ : xSt) : fX1_goOn (d + 1) p1 p2 p3 σ = ((if p1 ≤ 0 then fX1_goOn_c21 (fX1_goOn d) p1 p2 p3 σ else (if 7 < p1 then fX1_goOn_c21 (fX1_goOn d) p1 p2 p3 σ else (xr σ 45 7 (p1 - 1) fun v1 => fX1_goOn_c23 (fX1_goOn d) p1 p2 p3 v1 σ))) : Option xSt) := rfl
abbrev rmX1_goOn (d : Nat) : Room := { frames := 3 + d, cells := 0, slots := 0, locals := 96 + 28 * d }
set_option maxRecDepth 100000 in
set_option maxHeartbeats 4000000 in
theorem mX1_goOn {l : Launch} {E : xE} (hE : E.sh = shX) : ∀ (d : Nat) (p1 : Int32) (p2 : Int32) (p3 : Int32) (σ : xSt) (o1 : xSt), fX1_goOn d p1 p2 p3 σ = some o1 → xMv l yX1_goOn wsX1_goOn (rmX1_goOn d) E [.ref (E.a 38), .int p1, .int p2, .int p3] σ o1 := by
  intro d
  induction d with
  | zero => intro p1 p2 p3 σ o1 hf; exact nomatch hf
  | succ d hrec =>
  intro p1 p2 p3 σ o1 hf
  rw [fX1_goOn_s] at hf
  refine xMv_of (cc := cX1_goOn) (maxL := 9) (ret := none) (by decide) rfl (Nat.le_of_ble_eq_true rfl) ?_
  intro p e s m args below meth c A ls ⟨hx, hb, hr, hml, hown, hts, hlk⟩ hA hG hw hl
  have hown : s.vm.findClass RX1 = some m.cls := hown
  have hl : lv_has ls 9 [(0, .ref (E.a 38)), (1, .int p1), (2, .int p2), (3, .int p3)] := hl
  have hk30 := hts (.fieldLink RX1 30 "OvenRound$Cart" "way" "[I") (by decide +kernel)
  have hiX1 : ∀ w ∈ wsX10, w ∈ wsX1_goOn := by decide +kernel
  have hk33 := hts (.fieldLink RX1 33 "OvenRound$Cart" "bestBack" "I") (by decide +kernel)
  have hk45 := hts (.fieldLink RX1 45 "OvenRound$Cart" "count" "I") (by decide +kernel)
  have hk27 := hts (.fieldLink RX1 27 "OvenRound$Cart" "bestWay" "[I") (by decide +kernel)
  have h111 : ∀ (n : Nat) (a1 : Int32) (a2 : Int32) (a3 : Int32) (a4 : Int32) (a7 : Int32) (σ : xSt) (H : Heap) (locs : List Loc) (ls : Array Slot), xw E A s.heap s σ H locs → lv_has ls 9 [(0, .ref (E.a 38)), (1, .int a1), (2, .int a2), (3, .int a3), (4, .int a4), (7, .int a7)] → fX1_goOn_c111 (fX1_goOn d) n a1 a2 a3 a4 a7 σ = some o1 → W p l e (rmX1_goOn (d + 1)) s m args below meth c H locs 0 0 (MQ below (xQv E A o1) args s 0 0 A) (F0 m 111 ls []) := by
    intro n111
    induction n111 with
    | zero => intro a1 a2 a3 a4 a7 σ H locs ls hw hl hf; exact nomatch hf
    | succ n111 ih111 =>
      have h142 : ∀ (a1 : Int32) (a2 : Int32) (a3 : Int32) (a4 : Int32) (a7 : Int32) (t0 : Int32) (σ : xSt) (H : Heap) (locs : List Loc) (ls : Array Slot), xw E A s.heap s σ H locs → lv_has ls 9 [(0, .ref (E.a 38)), (1, .int a1), (2, .int a2), (3, .int a3), (4, .int a4), (7, .int a7)] → fX1_goOn_c142 (fX1_goOn d) (fX1_goOn_c111 (fX1_goOn d) n111) a1 a2 a3 a4 a7 t0 σ = some o1 → W p l e (rmX1_goOn (d + 1)) s m args below meth c H locs 0 0 (MQ below (xQv E A o1) args s 0 0 A) (F0 m 142 ls [.int t0]) := by
        intro a1 a2 a3 a4 a7 t0 σ H locs ls hw hl hf
        unfold fX1_goOn_c142 at hf
        refine lv_istore (lv' := [(8, .int t0), (0, .ref (E.a 38)), (1, .int a1), (2, .int a2), (3, .int a3), (4, .int a4), (7, .int a7)]) hx hb dX1_goOn_142 hl (by decide) rfl (fun ls hl => ?_)
        refine lv_iload hx hb dX1_goOn_144 (lv_at hl 0 rfl) ?_
        refine lv_iconst (v := (-1)) hx hb dX1_goOn_146 (by decide) ?_
        refine lv_icmp_eq (tgt := 173) hx hb dX1_goOn_147 (by decide) (fun c147 => ?_) (fun c147 => ?_)
        · replace hf := xif_pos c147 hf
          obtain ⟨v9, ex⟩ : ∃ y : Int32, y = (a7 + 1) := ⟨_, rfl⟩
          replace hf := xl_f hf v9 ex
          refine lv_iinc (v := v9) (lv' := [(7, .int v9), (8, .int t0), (0, .ref (E.a 38)), (1, .int a1), (2, .int a2), (3, .int a3), (4, .int a4)]) hx hb dX1_goOn_173 hl (k := 6) rfl (by rw [ex]; rfl) (by decide) rfl (fun ls hl => ?_)
          clear ex
          refine lv_goto (tgt := 111) hx hb dX1_goOn_176 (by decide) ?_
          exact ih111 a1 a2 a3 a4 v9 σ _ _ _ hw (lv_sub hl [2, 3, 4, 5, 6, 0] rfl) hf
        · replace hf := xif_neg c147 hf
          refine lv_aload_n hx hb dX1_goOn_150 rfl (lv_at hl 1 rfl) ?_
          refine x_getr hx hb hw (cX38 hE) (own := RX1) (ref := RX1) (C := RX1) (T := TX1) (N := 9) hts hiX1 hown rfl 8 (by decide) hk30 (fun _ h9 => h9) rfl dX1_goOn_151 ?_
          refine lv_iload_n hx hb dX1_goOn_154 rfl (lv_at hl 2 rfl) ?_
          refine lv_iload hx hb dX1_goOn_155 (lv_at hl 6 rfl) ?_
          obtain ⟨hin, hf⟩ := xs_f hf
          refine x_iast hx hb hw (cX45 hE) hin dX1_goOn_157 (fun σ10 H locs ex hw => ?_)
          replace hf := hf σ10 ex
          clear ex hin
          refine lv_aload_n hx hb dX1_goOn_158 rfl (lv_at hl 1 rfl) ?_
          refine lv_iload_n hx hb dX1_goOn_159 rfl (lv_at hl 2 rfl) ?_
          refine lv_iconst (v := 1) hx hb dX1_goOn_160 (by decide) ?_
          refine lv_iadd hx hb dX1_goOn_161 ?_
          refine lv_iload_n hx hb dX1_goOn_162 rfl (lv_at hl 3 rfl) ?_
          refine lv_iconst (v := 1) hx hb dX1_goOn_163 (by decide) ?_
          refine lv_iload hx hb dX1_goOn_164 (lv_at hl 6 rfl) ?_
          refine lv_ishl hx hb dX1_goOn_166 ?_
          refine lv_ior hx hb dX1_goOn_167 ?_
          refine lv_iload hx hb dX1_goOn_168 (lv_at hl 0 rfl) ?_
          obtain ⟨σ12, hcl, hf⟩ := xc_e hf
          refine x_callv (va_runS (As := [.ref (E.a 38), .int (a1 + 1), .int (a2 ||| (1 <<< (a7 &&& 31))), .int t0]) (rest := []) ⟨hx, hb, hml, hown, hts⟩ (hrec (a1 + 1) (a2 ||| (1 <<< (a7 &&& 31))) t0 σ10 σ12 hcl H.size) (va_cwS 4 hts gX1_goOn_X1_goOn rfl rfl rfl (by decide +kernel) ⟨(by first | exact Nat.le_of_ble_eq_true rfl | (simp only [rmX1_goOn, rmX1_goOn, rmX1_leaves, rmX1_minutesBetween]; omega)), (by first | exact Nat.le_of_ble_eq_true rfl | (simp only [rmX1_goOn, rmX1_goOn, rmX1_leaves, rmX1_minutesBetween]; omega))⟩) (x_preS _ hw hA hG) rfl rfl hl.1 rfl (lv_room ((by first | exact Nat.le_of_ble_eq_true rfl | (simp only [rmX1_goOn, rmX1_goOn, rmX1_leaves, rmX1_minutesBetween]; omega)))) dX1_goOn_170 ⟨(by first | exact Nat.le_of_ble_eq_true rfl | (simp only [rmX1_goOn, rmX1_goOn, rmX1_leaves, rmX1_minutesBetween]; omega)), (by first | exact Nat.le_of_ble_eq_true rfl | (simp only [rmX1_goOn, rmX1_goOn, rmX1_leaves, rmX1_minutesBetween]; omega))⟩) hw hA (fun H locs hw => ?_)
          clear hcl
          obtain ⟨v13, ex⟩ : ∃ y : Int32, y = (a7 + 1) := ⟨_, rfl⟩
          replace hf := xl_f hf v13 ex
          refine lv_iinc (v := v13) (lv' := [(7, .int v13), (8, .int t0), (0, .ref (E.a 38)), (1, .int a1), (2, .int a2), (3, .int a3), (4, .int a4)]) hx hb dX1_goOn_173 hl (k := 6) rfl (by rw [ex]; rfl) (by decide) rfl (fun ls hl => ?_)
          clear ex
          refine lv_goto (tgt := 111) hx hb dX1_goOn_176 (by decide) ?_
          exact ih111 a1 a2 a3 a4 v13 σ12 _ _ _ hw (lv_sub hl [2, 3, 4, 5, 6, 0] rfl) hf
      intro a1 a2 a3 a4 a7 σ H locs ls hw hl hf
      rw [fX1_goOn_c111_s] at hf
      refine lv_iload hx hb dX1_goOn_111 (lv_at hl 5 rfl) ?_
      refine lv_aload_n hx hb dX1_goOn_113 rfl (lv_at hl 0 rfl) ?_
      refine x_geti hx hb hw (cX38 hE) (own := RX1) (ref := RX1) (C := RX1) (T := TX1) (N := 9) hts hiX1 hown rfl 5 (by decide) hk45 (fun _ h9 => h9) rfl dX1_goOn_114 ?_
      refine lv_icmp_ge (tgt := 179) hx hb dX1_goOn_117 (by decide) (fun c117 => ?_) (fun c117 => ?_)
      · replace hf := xif_pos c117 hf
        exact x_vret hx hb hr hlk hw hf dX1_goOn_179
      · replace hf := xif_neg c117 hf
        refine lv_iload_n hx hb dX1_goOn_120 rfl (lv_at hl 2 rfl) ?_
        refine lv_iload hx hb dX1_goOn_121 (lv_at hl 5 rfl) ?_
        refine lv_ishr hx hb dX1_goOn_123 ?_
        refine lv_iconst (v := 1) hx hb dX1_goOn_124 (by decide) ?_
        refine lv_iand hx hb dX1_goOn_125 ?_
        refine lv_if_ne (tgt := 141) hx hb dX1_goOn_126 (by decide) (fun c126 => ?_) (fun c126 => ?_)
        · replace hf := xif_neg c126 hf
          refine lv_iconst (v := (-1)) hx hb dX1_goOn_141 (by decide) ?_
          exact h142 a1 a2 a3 a4 a7 (-1) σ _ _ _ hw (lv_sub hl [0, 1, 2, 3, 4, 5] rfl) hf
        · replace hf := xif_pos c126 hf
          refine lv_aload_n hx hb dX1_goOn_129 rfl (lv_at hl 0 rfl) ?_
          refine lv_iload hx hb dX1_goOn_130 (lv_at hl 5 rfl) ?_
          refine lv_iload hx hb dX1_goOn_132 (lv_at hl 4 rfl) ?_
          refine lv_iload_n hx hb dX1_goOn_134 rfl (lv_at hl 3 rfl) ?_
          obtain ⟨r7, σ8, hcl, hf⟩ := xc2_f hf
          refine x_calli (va_runV (As := [.int a7, .int a4, .int a3]) (rest := []) ⟨hx, hb, hml, hown, hts⟩ (mX1_leaves hE a7 a4 a3 σ r7 σ8 hcl H.size) (cwV 3 hts gX1_goOn_X1_leaves rfl rfl rfl (by decide +kernel) ⟨(by first | exact Nat.le_of_ble_eq_true rfl | (simp only [rmX1_goOn, rmX1_goOn, rmX1_leaves, rmX1_minutesBetween]; omega)), (by first | exact Nat.le_of_ble_eq_true rfl | (simp only [rmX1_goOn, rmX1_goOn, rmX1_leaves, rmX1_minutesBetween]; omega))⟩) (x_preV _ hw hA hG (cX38 hE) rfl) rfl rfl hl.1 rfl (lv_room ((by first | exact Nat.le_of_ble_eq_true rfl | (simp only [rmX1_goOn, rmX1_goOn, rmX1_leaves, rmX1_minutesBetween]; omega)))) dX1_goOn_135 ⟨(by first | exact Nat.le_of_ble_eq_true rfl | (simp only [rmX1_goOn, rmX1_goOn, rmX1_leaves, rmX1_minutesBetween]; omega)), (by first | exact Nat.le_of_ble_eq_true rfl | (simp only [rmX1_goOn, rmX1_goOn, rmX1_leaves, rmX1_minutesBetween]; omega))⟩) hw hA (fun H locs hw => ?_)
          clear hcl
          refine lv_goto (tgt := 142) hx hb dX1_goOn_138 (by decide) ?_
          exact h142 a1 a2 a3 a4 a7 r7 σ8 _ _ _ hw (lv_sub hl [0, 1, 2, 3, 4, 5] rfl) hf
  have h75 : ∀ (a5 : Int32) (a6 : Int32) (σ : xSt) (H : Heap) (locs : List Loc) (ls : Array Slot), xw E A s.heap s σ H locs → lv_has ls 9 [(0, .ref (E.a 38)), (5, .int a5), (6, .int a6)] → fX1_goOn_c75 (fX1_goOn d) a5 a6 σ = some o1 → W p l e (rmX1_goOn (d + 1)) s m args below meth c H locs 0 0 (MQ below (xQv E A o1) args s 0 0 A) (F0 m 75 ls []) := by
    intro a5 a6 σ H locs ls hw hl hf
    unfold fX1_goOn_c75 at hf
    refine lv_iload hx hb dX1_goOn_75 (lv_at hl 2 rfl) ?_
    refine lv_if_eq (tgt := 101) hx hb dX1_goOn_77 (by decide) (fun c77 => ?_) (fun c77 => ?_)
    · replace hf := xif_pos c77 hf
      exact x_vret hx hb hr hlk hw hf dX1_goOn_101
    · replace hf := xif_neg c77 hf
      refine lv_aload_n hx hb dX1_goOn_80 rfl (lv_at hl 0 rfl) ?_
      refine lv_iload hx hb dX1_goOn_81 (lv_at hl 1 rfl) ?_
      refine x_puti hx hb hw (cX38 hE) (own := RX1) (ref := RX1) (C := RX1) (T := TX1) (N := 9) hts hiX1 tyX1 tyX1_ok nmX1 hown rfl 7 (by decide) hk33 (fun _ h9 => h9) rfl (by decide +kernel) rfl dX1_goOn_83 (fun σ5 H locs ex hw => ?_)
      replace hf := xp_f hf σ5 ex
      clear ex
      refine lv_aload_n hx hb dX1_goOn_86 rfl (lv_at hl 0 rfl) ?_
      refine x_getr hx hb hw (cX38 hE) (own := RX1) (ref := RX1) (C := RX1) (T := TX1) (N := 9) hts hiX1 hown rfl 8 (by decide) hk30 (fun _ h9 => h9) rfl dX1_goOn_87 ?_
      refine lv_iconst (v := 0) hx hb dX1_goOn_90 (by decide) ?_
      refine lv_aload_n hx hb dX1_goOn_91 rfl (lv_at hl 0 rfl) ?_
      refine x_getr hx hb hw (cX38 hE) (own := RX1) (ref := RX1) (C := RX1) (T := TX1) (N := 9) hts hiX1 hown rfl 6 (by decide) hk27 (fun _ h9 => h9) rfl dX1_goOn_92 ?_
      refine lv_iconst (v := 0) hx hb dX1_goOn_95 (by decide) ?_
      refine lv_bipush (v := 7) hx hb dX1_goOn_96 (by decide) ?_
      obtain ⟨hin, hf⟩ := xcpy_f hf
      refine x_copy hx hb (hml.trans hl.1.symm) hw hown (hts (.methodLink RX1 48 arraycopyName) (by decide +kernel)) (hts (.native arraycopyName) (by decide +kernel)) (hts (.static arraycopyName) (by decide +kernel)) (hts (.initialized "java/lang/System") (by decide +kernel)) (cX45 hE) (cX44 hE) hin ((by first | exact Nat.le_of_ble_eq_true rfl | (simp only [rmX1_goOn, rmX1_goOn, rmX1_leaves, rmX1_minutesBetween]; omega))) ((by first | exact Nat.le_of_ble_eq_true rfl | (simp only [rmX1_goOn, rmX1_goOn, rmX1_leaves, rmX1_minutesBetween]; omega))) dX1_goOn_98 (fun σ6 H locs ex hw => ?_)
      replace hf := hf σ6 ex
      clear ex hin
      exact x_vret hx hb hr hlk hw hf dX1_goOn_101
  have h59 : ∀ (a1 : Int32) (a2 : Int32) (a3 : Int32) (a4 : Int32) (a5 : Int32) (t0 : Int32) (σ : xSt) (H : Heap) (locs : List Loc) (ls : Array Slot), xw E A s.heap s σ H locs → lv_has ls 9 [(0, .ref (E.a 38)), (1, .int a1), (2, .int a2), (3, .int a3), (4, .int a4), (5, .int a5)] → fX1_goOn_c59 (fX1_goOn d) a1 a2 a3 a4 a5 t0 σ = some o1 → W p l e (rmX1_goOn (d + 1)) s m args below meth c H locs 0 0 (MQ below (xQv E A o1) args s 0 0 A) (F0 m 59 ls [.int t0]) := by
    intro a1 a2 a3 a4 a5 t0 σ H locs ls hw hl hf
    unfold fX1_goOn_c59 at hf
    refine lv_istore (lv' := [(6, .int t0), (0, .ref (E.a 38)), (1, .int a1), (2, .int a2), (3, .int a3), (4, .int a4), (5, .int a5)]) hx hb dX1_goOn_59 hl (by decide) rfl (fun ls hl => ?_)
    refine lv_iload_n hx hb dX1_goOn_61 rfl (lv_at hl 2 rfl) ?_
    refine lv_aload_n hx hb dX1_goOn_62 rfl (lv_at hl 1 rfl) ?_
    refine x_geti hx hb hw (cX38 hE) (own := RX1) (ref := RX1) (C := RX1) (T := TX1) (N := 9) hts hiX1 hown rfl 5 (by decide) hk45 (fun _ h9 => h9) rfl dX1_goOn_63 ?_
    refine lv_icmp_ge (tgt := 75) hx hb dX1_goOn_66 (by decide) (fun c66 => ?_) (fun c66 => ?_)
    · replace hf := xif_pos c66 hf
      exact h75 a5 t0 σ _ _ _ hw (lv_sub hl [1, 6, 0] rfl) hf
    · replace hf := xif_neg c66 hf
      refine lv_iload_n hx hb dX1_goOn_69 rfl (lv_at hl 2 rfl) ?_
      refine lv_bipush (v := 7) hx hb dX1_goOn_70 (by decide) ?_
      refine lv_icmp_lt (tgt := 102) hx hb dX1_goOn_72 (by decide) (fun c72 => ?_) (fun c72 => ?_)
      · replace hf := xif_pos c72 hf
        refine lv_iload hx hb dX1_goOn_102 (lv_at hl 0 rfl) ?_
        refine lv_if_ne (tgt := 108) hx hb dX1_goOn_104 (by decide) (fun c104 => ?_) (fun c104 => ?_)
        · replace hf := xif_neg c104 hf
          refine lv_iconst (v := 0) hx hb dX1_goOn_108 (by decide) ?_
          refine lv_istore (lv' := [(7, .int 0), (6, .int t0), (0, .ref (E.a 38)), (1, .int a1), (2, .int a2), (3, .int a3), (4, .int a4), (5, .int a5)]) hx hb dX1_goOn_109 hl (by decide) rfl (fun ls hl => ?_)
          exact h111 xFU a1 a2 a3 a4 0 σ _ _ _ hw (lv_sub hl [2, 3, 4, 5, 6, 0] rfl) hf
        · replace hf := xif_pos c104 hf
          exact x_vret hx hb hr hlk hw hf dX1_goOn_107
      · replace hf := xif_neg c72 hf
        exact h75 a5 t0 σ _ _ _ hw (lv_sub hl [1, 6, 0] rfl) hf
  have h54 : ∀ (a1 : Int32) (a2 : Int32) (a3 : Int32) (a4 : Int32) (a5 : Int32) (σ : xSt) (H : Heap) (locs : List Loc) (ls : Array Slot), xw E A s.heap s σ H locs → lv_has ls 9 [(0, .ref (E.a 38)), (1, .int a1), (2, .int a2), (3, .int a3), (4, .int a4), (5, .int a5)] → fX1_goOn_c54 (fX1_goOn d) a1 a2 a3 a4 a5 σ = some o1 → W p l e (rmX1_goOn (d + 1)) s m args below meth c H locs 0 0 (MQ below (xQv E A o1) args s 0 0 A) (F0 m 54 ls []) := by
    intro a1 a2 a3 a4 a5 σ H locs ls hw hl hf
    unfold fX1_goOn_c54 at hf
    refine lv_iconst (v := 1) hx hb dX1_goOn_54 (by decide) ?_
    refine lv_goto (tgt := 59) hx hb dX1_goOn_55 (by decide) ?_
    exact h59 a1 a2 a3 a4 a5 1 σ _ _ _ hw (lv_sub hl [0, 1, 2, 3, 4, 5] rfl) hf
  have h23 : ∀ (a1 : Int32) (a2 : Int32) (a3 : Int32) (t0 : Int32) (σ : xSt) (H : Heap) (locs : List Loc) (ls : Array Slot), xw E A s.heap s σ H locs → lv_has ls 9 [(0, .ref (E.a 38)), (1, .int a1), (2, .int a2), (3, .int a3)] → fX1_goOn_c23 (fX1_goOn d) a1 a2 a3 t0 σ = some o1 → W p l e (rmX1_goOn (d + 1)) s m args below meth c H locs 0 0 (MQ below (xQv E A o1) args s 0 0 A) (F0 m 23 ls [.int t0]) := by
    intro a1 a2 a3 t0 σ H locs ls hw hl hf
    unfold fX1_goOn_c23 at hf
    refine lv_istore (lv' := [(4, .int t0), (0, .ref (E.a 38)), (1, .int a1), (2, .int a2), (3, .int a3)]) hx hb dX1_goOn_23 hl (by decide) rfl (fun ls hl => ?_)
    refine lv_iload_n hx hb dX1_goOn_25 rfl (lv_at hl 4 rfl) ?_
    refine lv_aload_n hx hb dX1_goOn_26 rfl (lv_at hl 1 rfl) ?_
    refine lv_iload hx hb dX1_goOn_27 (lv_at hl 0 rfl) ?_
    refine lv_bipush (v := 7) hx hb dX1_goOn_29 (by decide) ?_
    obtain ⟨r2, σ3, hcl, hf⟩ := xc2_f hf
    refine x_calli (va_runV (As := [.int t0, .int 7]) (rest := [.int a3]) ⟨hx, hb, hml, hown, hts⟩ (mX1_minutesBetween hE t0 7 σ r2 σ3 hcl H.size) (cwV 2 hts gX1_goOn_X1_minutesBetween rfl rfl rfl (by decide +kernel) ⟨(by first | exact Nat.le_of_ble_eq_true rfl | (simp only [rmX1_goOn, rmX1_goOn, rmX1_leaves, rmX1_minutesBetween]; omega)), (by first | exact Nat.le_of_ble_eq_true rfl | (simp only [rmX1_goOn, rmX1_goOn, rmX1_leaves, rmX1_minutesBetween]; omega))⟩) (x_preV _ hw hA hG (cX38 hE) rfl) rfl rfl hl.1 rfl (lv_room ((by first | exact Nat.le_of_ble_eq_true rfl | (simp only [rmX1_goOn, rmX1_goOn, rmX1_leaves, rmX1_minutesBetween]; omega)))) dX1_goOn_31 ⟨(by first | exact Nat.le_of_ble_eq_true rfl | (simp only [rmX1_goOn, rmX1_goOn, rmX1_leaves, rmX1_minutesBetween]; omega)), (by first | exact Nat.le_of_ble_eq_true rfl | (simp only [rmX1_goOn, rmX1_goOn, rmX1_leaves, rmX1_minutesBetween]; omega))⟩) hw hA (fun H locs hw => ?_)
    clear hcl
    refine lv_iadd hx hb dX1_goOn_34 ?_
    refine lv_topi (fun v4 ex => ?_)
    replace hf := xl_f hf v4 ex
    clear ex
    refine lv_istore (lv' := [(5, .int v4), (4, .int t0), (0, .ref (E.a 38)), (1, .int a1), (2, .int a2), (3, .int a3)]) hx hb dX1_goOn_35 hl (by decide) rfl (fun ls hl => ?_)
    refine lv_aload_n hx hb dX1_goOn_37 rfl (lv_at hl 2 rfl) ?_
    refine x_geti hx hb hw (cX38 hE) (own := RX1) (ref := RX1) (C := RX1) (T := TX1) (N := 9) hts hiX1 hown rfl 7 (by decide) hk33 (fun _ h9 => h9) rfl dX1_goOn_38 ?_
    refine lv_iconst (v := (-1)) hx hb dX1_goOn_41 (by decide) ?_
    refine lv_icmp_eq (tgt := 54) hx hb dX1_goOn_42 (by decide) (fun c42 => ?_) (fun c42 => ?_)
    · replace hf := xif_pos c42 hf
      exact h54 a1 a2 a3 t0 v4 σ3 _ _ _ hw (lv_sub hl [2, 3, 4, 5, 1, 0] rfl) hf
    · replace hf := xif_neg c42 hf
      refine lv_iload hx hb dX1_goOn_45 (lv_at hl 0 rfl) ?_
      refine lv_aload_n hx hb dX1_goOn_47 rfl (lv_at hl 2 rfl) ?_
      refine x_geti hx hb hw (cX38 hE) (own := RX1) (ref := RX1) (C := RX1) (T := TX1) (N := 9) hts hiX1 hown rfl 7 (by decide) hk33 (fun _ h9 => h9) rfl dX1_goOn_48 ?_
      refine lv_icmp_ge (tgt := 58) hx hb dX1_goOn_51 (by decide) (fun c51 => ?_) (fun c51 => ?_)
      · replace hf := xif_pos c51 hf
        refine lv_iconst (v := 0) hx hb dX1_goOn_58 (by decide) ?_
        exact h59 a1 a2 a3 t0 v4 0 σ3 _ _ _ hw (lv_sub hl [2, 3, 4, 5, 1, 0] rfl) hf
      · replace hf := xif_neg c51 hf
        exact h54 a1 a2 a3 t0 v4 σ3 _ _ _ hw (lv_sub hl [2, 3, 4, 5, 1, 0] rfl) hf
  have h21 : ∀ (a1 : Int32) (a2 : Int32) (a3 : Int32) (σ : xSt) (H : Heap) (locs : List Loc) (ls : Array Slot), xw E A s.heap s σ H locs → lv_has ls 9 [(0, .ref (E.a 38)), (1, .int a1), (2, .int a2), (3, .int a3)] → fX1_goOn_c21 (fX1_goOn d) a1 a2 a3 σ = some o1 → W p l e (rmX1_goOn (d + 1)) s m args below meth c H locs 0 0 (MQ below (xQv E A o1) args s 0 0 A) (F0 m 21 ls []) := by
    intro a1 a2 a3 σ H locs ls hw hl hf
    unfold fX1_goOn_c21 at hf
    refine lv_bipush (v := 7) hx hb dX1_goOn_21 (by decide) ?_
    exact h23 a1 a2 a3 7 σ _ _ _ hw (lv_sub hl [0, 1, 2, 3] rfl) hf
  refine lv_iload_n hx hb dX1_goOn_0 rfl (lv_at hl 1 rfl) ?_
  refine lv_if_le (tgt := 21) hx hb dX1_goOn_1 (by decide) (fun c1 => ?_) (fun c1 => ?_)
  · replace hf := xif_pos c1 hf
    exact h21 p1 p2 p3 σ _ _ _ hw (lv_sub hl [0, 1, 2, 3] rfl) hf
  · replace hf := xif_neg c1 hf
    refine lv_iload_n hx hb dX1_goOn_4 rfl (lv_at hl 1 rfl) ?_
    refine lv_bipush (v := 7) hx hb dX1_goOn_5 (by decide) ?_
    refine lv_icmp_gt (tgt := 21) hx hb dX1_goOn_7 (by decide) (fun c7 => ?_) (fun c7 => ?_)
    · replace hf := xif_pos c7 hf
      exact h21 p1 p2 p3 σ _ _ _ hw (lv_sub hl [0, 1, 2, 3] rfl) hf
    · replace hf := xif_neg c7 hf
      refine lv_aload_n hx hb dX1_goOn_10 rfl (lv_at hl 0 rfl) ?_
      refine x_getr hx hb hw (cX38 hE) (own := RX1) (ref := RX1) (C := RX1) (T := TX1) (N := 9) hts hiX1 hown rfl 8 (by decide) hk30 (fun _ h9 => h9) rfl dX1_goOn_11 ?_
      refine lv_iload_n hx hb dX1_goOn_14 rfl (lv_at hl 1 rfl) ?_
      refine lv_iconst (v := 1) hx hb dX1_goOn_15 (by decide) ?_
      refine lv_isub hx hb dX1_goOn_16 ?_
      obtain ⟨hin, hf⟩ := xr_f hf
      refine x_iald hx hb hw (cX45 hE) hin dX1_goOn_17 ?_
      refine lv_topi (fun v1 ex => ?_)
      replace hf := hf v1 ex
      clear ex hin
      refine lv_goto (tgt := 23) hx hb dX1_goOn_18 (by decide) ?_
      exact h23 p1 p2 p3 v1 σ _ _ _ hw (lv_sub hl [0, 1, 2, 3] rfl) hf

def fX1_findWay (p0 : Int32) (σ : xSt) : Option (Int32 × xSt) := (xp σ 38 7 (-1) fun σ1 => (xc (fX1_goOn 10 0 0 p0 σ1) fun σ3 => (if (σ3 38 7) = (-1) then some (0, σ3) else some (1, σ3))))
abbrev rmX1_findWay : Room := { frames := 14, cells := 0, slots := 0, locals := 404 }
set_option maxRecDepth 100000 in
set_option maxHeartbeats 4000000 in
theorem mX1_findWay {l : Launch} {E : xE} (hE : E.sh = shX) (p0 : Int32) (σ : xSt) (o1 : Int32) (o2 : xSt) (hf : fX1_findWay p0 σ = some (o1, o2)) : xMi l yX1_findWay wsX1_findWay rmX1_findWay E [.ref (E.a 38), .int p0] σ o1 o2 := by
  unfold fX1_findWay at hf
  refine xMi_of (cc := cX1_findWay) (maxL := 2) (ret := (some .boolean)) (by decide) rfl (Nat.le_of_ble_eq_true rfl) ?_
  intro p e s m args below meth c A ls ⟨hx, hb, hr, hml, hown, hts, hlk⟩ hA hG hw hl
  have hown : s.vm.findClass RX1 = some m.cls := hown
  have hl : lv_has ls 2 [(0, .ref (E.a 38)), (1, .int p0)] := hl
  have hk33 := hts (.fieldLink RX1 33 "OvenRound$Cart" "bestBack" "I") (by decide +kernel)
  have hiX1 : ∀ w ∈ wsX10, w ∈ wsX1_findWay := by decide +kernel
  refine lv_aload_n hx hb dX1_findWay_0 rfl (lv_at hl 0 rfl) ?_
  refine lv_iconst (v := (-1)) hx hb dX1_findWay_1 (by decide) ?_
  refine x_puti hx hb hw (cX38 hE) (own := RX1) (ref := RX1) (C := RX1) (T := TX1) (N := 9) hts hiX1 tyX1 tyX1_ok nmX1 hown rfl 7 (by decide) hk33 (fun _ h9 => h9) rfl (by decide +kernel) rfl dX1_findWay_2 (fun σ1 H locs ex hw => ?_)
  replace hf := xp_f hf σ1 ex
  clear ex
  refine lv_aload_n hx hb dX1_findWay_5 rfl (lv_at hl 0 rfl) ?_
  refine lv_iconst (v := 0) hx hb dX1_findWay_6 (by decide) ?_
  refine lv_iconst (v := 0) hx hb dX1_findWay_7 (by decide) ?_
  refine lv_iload_n hx hb dX1_findWay_8 rfl (lv_at hl 1 rfl) ?_
  obtain ⟨σ3, hcl, hf⟩ := xc_e hf
  refine x_callv (va_runS (As := [.ref (E.a 38), .int 0, .int 0, .int p0]) (rest := []) ⟨hx, hb, hml, hown, hts⟩ (mX1_goOn hE 10 0 0 p0 σ1 σ3 hcl H.size) (va_cwS 4 hts gX1_findWay_X1_goOn rfl rfl rfl (by decide +kernel) ⟨Nat.le_of_ble_eq_true rfl, Nat.le_of_ble_eq_true rfl⟩) (x_preS _ hw hA hG) rfl rfl hl.1 rfl (lv_room (Nat.le_of_ble_eq_true rfl)) dX1_findWay_9 ⟨Nat.le_of_ble_eq_true rfl, Nat.le_of_ble_eq_true rfl⟩) hw hA (fun H locs hw => ?_)
  clear hcl
  refine lv_aload_n hx hb dX1_findWay_12 rfl (lv_at hl 0 rfl) ?_
  refine x_geti hx hb hw (cX38 hE) (own := RX1) (ref := RX1) (C := RX1) (T := TX1) (N := 9) hts hiX1 hown rfl 7 (by decide) hk33 (fun _ h9 => h9) rfl dX1_findWay_13 ?_
  refine lv_iconst (v := (-1)) hx hb dX1_findWay_16 (by decide) ?_
  refine lv_icmp_eq (tgt := 24) hx hb dX1_findWay_17 (by decide) (fun c17 => ?_) (fun c17 => ?_)
  · replace hf := xif_pos c17 hf
    refine lv_iconst (v := 0) hx hb dX1_findWay_24 (by decide) ?_
    exact x_zretc hx hb hr hlk hw (by decide) hf dX1_findWay_25
  · replace hf := xif_neg c17 hf
    refine lv_iconst (v := 1) hx hb dX1_findWay_20 (by decide) ?_
    refine lv_goto (tgt := 25) hx hb dX1_findWay_21 (by decide) ?_
    exact x_zretc hx hb hr hlk hw (by decide) hf dX1_findWay_25

def fX11_isWithin (p0 : Int32) (p1 : Int32) (p2 : Int32) (σ : xSt) : Option (Int32 × xSt) := (if p0 < p1 then some (0, σ) else (if p2 < p0 then some (0, σ) else some (1, σ)))
abbrev rmX11_isWithin : Room := { frames := 0, cells := 0, slots := 0, locals := 0 }
set_option maxRecDepth 100000 in
set_option maxHeartbeats 4000000 in
theorem mX11_isWithin {l : Launch} {E : xE} (hE : E.sh = shX) (p0 : Int32) (p1 : Int32) (p2 : Int32) (σ : xSt) (o1 : Int32) (o2 : xSt) (hf : fX11_isWithin p0 p1 p2 σ = some (o1, o2)) : xMi l yX11_isWithin wsX11_isWithin rmX11_isWithin E [.int p0, .int p1, .int p2] σ o1 o2 := by
  unfold fX11_isWithin at hf
  refine xMi_of (cc := cX11_isWithin) (maxL := 3) (ret := (some .boolean)) (by decide) rfl (Nat.le_of_ble_eq_true rfl) ?_
  intro p e s m args below meth c A ls ⟨hx, hb, hr, hml, hown, hts, hlk⟩ hA hG hw hl
  have hown : s.vm.findClass RX11 = some m.cls := hown
  have hl : lv_has ls 3 [(0, .int p0), (1, .int p1), (2, .int p2)] := hl
  refine lv_iload_n hx hb dX11_isWithin_0 rfl (lv_at hl 0 rfl) ?_
  refine lv_iload_n hx hb dX11_isWithin_1 rfl (lv_at hl 1 rfl) ?_
  refine lv_icmp_lt (tgt := 14) hx hb dX11_isWithin_2 (by decide) (fun c2 => ?_) (fun c2 => ?_)
  · replace hf := xif_pos c2 hf
    refine lv_iconst (v := 0) hx hb dX11_isWithin_14 (by decide) ?_
    exact x_zretc hx hb hr hlk hw (by decide) hf dX11_isWithin_15
  · replace hf := xif_neg c2 hf
    refine lv_iload_n hx hb dX11_isWithin_5 rfl (lv_at hl 0 rfl) ?_
    refine lv_iload_n hx hb dX11_isWithin_6 rfl (lv_at hl 2 rfl) ?_
    refine lv_icmp_gt (tgt := 14) hx hb dX11_isWithin_7 (by decide) (fun c7 => ?_) (fun c7 => ?_)
    · replace hf := xif_pos c7 hf
      refine lv_iconst (v := 0) hx hb dX11_isWithin_14 (by decide) ?_
      exact x_zretc hx hb hr hlk hw (by decide) hf dX11_isWithin_15
    · replace hf := xif_neg c7 hf
      refine lv_iconst (v := 1) hx hb dX11_isWithin_10 (by decide) ?_
      refine lv_goto (tgt := 15) hx hb dX11_isWithin_11 (by decide) ?_
      exact x_zretc hx hb hr hlk hw (by decide) hf dX11_isWithin_15

def fX1_readWay_c12 : Nat → Int32 → Int32 → Int32 → xSt → Option (Int32 × xSt)
  | 0 => fun _ _ _ _ => none
  | n + 1 => fun a2 a3 a4 σ => (if a4 < 0 then (if a2 = 0 then some (1, σ) else some (0, σ)) else (xl (a2 - a2 / 10 * 10) fun v2 => (xl (a2 / 10) fun v3 => (xc2 (fX11_isWithin v2 0 ((σ 38 5) - 1) σ) fun r4 σ5 => (if r4 = 0 then some (0, σ5) else (if ((a3 >>> (v2 &&& 31)) &&& 1) = 0 then (xl (a3 ||| (1 <<< (v2 &&& 31))) fun v6 => (xs σ5 45 7 a4 v2 fun σ7 => (xl (a4 + (-1)) fun v8 => fX1_readWay_c12 n v3 v6 v8 σ7))) else some (0, σ5)))))))
theorem fX1_readWay_c12_s (n : Nat) (a2 : Int32) (a3 : Int32) (a4 : Int32) (σ : xSt) : fX1_readWay_c12 (n + 1) a2 a3 a4 σ = ((if a4 < 0 then (if a2 = 0 then some (1, σ) else some (0, σ)) else (xl (a2 - a2 / 10 * 10) fun v2 => (xl (a2 / 10) fun v3 => (xc2 (fX11_isWithin v2 0 ((σ 38 5) - 1) σ) fun r4 σ5 => (if r4 = 0 then some (0, σ5) else (if ((a3 >>> (v2 &&& 31)) &&& 1) = 0 then (xl (a3 ||| (1 <<< (v2 &&& 31))) fun v6 => (xs σ5 45 7 a4 v2 fun σ7 => (xl (a4 + (-1)) fun v8 => fX1_readWay_c12 n v3 v6 v8 σ7))) else some (0, σ5))))))) : Option (Int32 × xSt)) := rfl
def fX1_readWay (p0 : Int32) (σ : xSt) : Option (Int32 × xSt) := (xl ((σ 38 5) - 1) fun v1 => fX1_readWay_c12 xFU p0 0 v1 σ)
abbrev rmX1_readWay : Room := { frames := 1, cells := 0, slots := 0, locals := 22 }
set_option maxRecDepth 100000 in
set_option maxHeartbeats 4000000 in
theorem mX1_readWay {l : Launch} {E : xE} (hE : E.sh = shX) (p0 : Int32) (σ : xSt) (o1 : Int32) (o2 : xSt) (hf : fX1_readWay p0 σ = some (o1, o2)) : xMi l yX1_readWay wsX1_readWay rmX1_readWay E [.ref (E.a 38), .int p0] σ o1 o2 := by
  unfold fX1_readWay at hf
  refine xMi_of (cc := cX1_readWay) (maxL := 6) (ret := (some .boolean)) (by decide) rfl (Nat.le_of_ble_eq_true rfl) ?_
  intro p e s m args below meth c A ls ⟨hx, hb, hr, hml, hown, hts, hlk⟩ hA hG hw hl
  have hown : s.vm.findClass RX1 = some m.cls := hown
  have hl : lv_has ls 6 [(0, .ref (E.a 38)), (1, .int p0)] := hl
  have hk45 := hts (.fieldLink RX1 45 "OvenRound$Cart" "count" "I") (by decide +kernel)
  have hiX1 : ∀ w ∈ wsX10, w ∈ wsX1_readWay := by decide +kernel
  have hk30 := hts (.fieldLink RX1 30 "OvenRound$Cart" "way" "[I") (by decide +kernel)
  have h12 : ∀ (n : Nat) (a2 : Int32) (a3 : Int32) (a4 : Int32) (σ : xSt) (H : Heap) (locs : List Loc) (ls : Array Slot), xw E A s.heap s σ H locs → lv_has ls 6 [(0, .ref (E.a 38)), (2, .int a2), (3, .int a3), (4, .int a4)] → fX1_readWay_c12 n a2 a3 a4 σ = some (o1, o2) → W p l e rmX1_readWay s m args below meth c H locs 0 0 (MQ below (xQi E A o1 o2) args s 0 0 A) (F0 m 12 ls []) := by
    intro n12
    induction n12 with
    | zero => intro a2 a3 a4 σ H locs ls hw hl hf; exact nomatch hf
    | succ n12 ih12 =>
      intro a2 a3 a4 σ H locs ls hw hl hf
      rw [fX1_readWay_c12_s] at hf
      refine lv_iload hx hb dX1_readWay_12 (lv_at hl 3 rfl) ?_
      refine lv_if_lt (tgt := 76) hx hb dX1_readWay_14 (by decide) (fun c14 => ?_) (fun c14 => ?_)
      · replace hf := xif_pos c14 hf
        refine lv_iload_n hx hb dX1_readWay_76 rfl (lv_at hl 1 rfl) ?_
        refine lv_if_ne (tgt := 84) hx hb dX1_readWay_77 (by decide) (fun c77 => ?_) (fun c77 => ?_)
        · replace hf := xif_neg c77 hf
          refine lv_iconst (v := 0) hx hb dX1_readWay_84 (by decide) ?_
          exact x_zretc hx hb hr hlk hw (by decide) hf dX1_readWay_85
        · replace hf := xif_pos c77 hf
          refine lv_iconst (v := 1) hx hb dX1_readWay_80 (by decide) ?_
          refine lv_goto (tgt := 85) hx hb dX1_readWay_81 (by decide) ?_
          exact x_zretc hx hb hr hlk hw (by decide) hf dX1_readWay_85
      · replace hf := xif_neg c14 hf
        refine lv_iload_n hx hb dX1_readWay_17 rfl (lv_at hl 1 rfl) ?_
        refine lv_bipush (v := 10) hx hb dX1_readWay_18 (by decide) ?_
        refine lv_irem hx hb dX1_readWay_20 (by decide) ?_
        refine lv_topi (fun v2 ex => ?_)
        replace hf := xl_f hf v2 ex
        clear ex
        refine lv_istore (lv' := [(5, .int v2), (0, .ref (E.a 38)), (2, .int a2), (3, .int a3), (4, .int a4)]) hx hb dX1_readWay_21 hl (by decide) rfl (fun ls hl => ?_)
        refine lv_iload_n hx hb dX1_readWay_23 rfl (lv_at hl 2 rfl) ?_
        refine lv_bipush (v := 10) hx hb dX1_readWay_24 (by decide) ?_
        refine lv_idiv hx hb dX1_readWay_26 (by decide) ?_
        refine lv_topi (fun v3 ex => ?_)
        replace hf := xl_f hf v3 ex
        clear ex
        refine lv_istore_n (lv' := [(2, .int v3), (5, .int v2), (0, .ref (E.a 38)), (3, .int a3), (4, .int a4)]) hx hb dX1_readWay_27 rfl hl (by decide) rfl (fun ls hl => ?_)
        refine lv_iload hx hb dX1_readWay_28 (lv_at hl 1 rfl) ?_
        refine lv_iconst (v := 0) hx hb dX1_readWay_30 (by decide) ?_
        refine lv_aload_n hx hb dX1_readWay_31 rfl (lv_at hl 2 rfl) ?_
        refine x_geti hx hb hw (cX38 hE) (own := RX1) (ref := RX1) (C := RX1) (T := TX1) (N := 9) hts hiX1 hown rfl 5 (by decide) hk45 (fun _ h9 => h9) rfl dX1_readWay_32 ?_
        refine lv_iconst (v := 1) hx hb dX1_readWay_35 (by decide) ?_
        refine lv_isub hx hb dX1_readWay_36 ?_
        obtain ⟨r4, σ5, hcl, hf⟩ := xc2_f hf
        refine x_calli (va_runSN (As := [.int v2, .int 0, .int ((σ 38 5) - 1)]) (rest := []) ⟨hx, hb, hml, hown, hts⟩ (mX11_isWithin hE v2 0 ((σ 38 5) - 1) σ r4 σ5 hcl H.size) ⟨va_cnB 3 hts gX1_readWay_X11_isWithin_n67 rfl rfl rfl (hG.1 (.methodLinkNest RX1 67 yX11_isWithin RX11) (by decide +kernel)) (hts (.initialized RX11) (by decide +kernel)) (by decide +kernel) ⟨Nat.le_of_ble_eq_true rfl, Nat.le_of_ble_eq_true rfl⟩, hts (.static yX11_isWithin) (by decide +kernel), trivial⟩ (x_preS _ hw hA hG) rfl rfl hl.1 rfl (lv_room (Nat.le_of_ble_eq_true rfl)) dX1_readWay_37 ⟨Nat.le_of_ble_eq_true rfl, Nat.le_of_ble_eq_true rfl⟩) hw hA (fun H locs hw => ?_)
        clear hcl
        refine lv_if_eq (tgt := 52) hx hb dX1_readWay_40 (by decide) (fun c40 => ?_) (fun c40 => ?_)
        · replace hf := xif_pos c40 hf
          refine lv_iconst (v := 0) hx hb dX1_readWay_52 (by decide) ?_
          exact x_zretc hx hb hr hlk hw (by decide) hf dX1_readWay_53
        · replace hf := xif_neg c40 hf
          refine lv_iload_n hx hb dX1_readWay_43 rfl (lv_at hl 3 rfl) ?_
          refine lv_iload hx hb dX1_readWay_44 (lv_at hl 1 rfl) ?_
          refine lv_ishr hx hb dX1_readWay_46 ?_
          refine lv_iconst (v := 1) hx hb dX1_readWay_47 (by decide) ?_
          refine lv_iand hx hb dX1_readWay_48 ?_
          refine lv_if_eq (tgt := 54) hx hb dX1_readWay_49 (by decide) (fun c49 => ?_) (fun c49 => ?_)
          · replace hf := xif_pos c49 hf
            refine lv_iload_n hx hb dX1_readWay_54 rfl (lv_at hl 3 rfl) ?_
            refine lv_iconst (v := 1) hx hb dX1_readWay_55 (by decide) ?_
            refine lv_iload hx hb dX1_readWay_56 (lv_at hl 1 rfl) ?_
            refine lv_ishl hx hb dX1_readWay_58 ?_
            refine lv_ior hx hb dX1_readWay_59 ?_
            refine lv_topi (fun v6 ex => ?_)
            replace hf := xl_f hf v6 ex
            clear ex
            refine lv_istore_n (lv' := [(3, .int v6), (2, .int v3), (5, .int v2), (0, .ref (E.a 38)), (4, .int a4)]) hx hb dX1_readWay_60 rfl hl (by decide) rfl (fun ls hl => ?_)
            refine lv_aload_n hx hb dX1_readWay_61 rfl (lv_at hl 3 rfl) ?_
            refine x_getr hx hb hw (cX38 hE) (own := RX1) (ref := RX1) (C := RX1) (T := TX1) (N := 9) hts hiX1 hown rfl 8 (by decide) hk30 (fun _ h9 => h9) rfl dX1_readWay_62 ?_
            refine lv_iload hx hb dX1_readWay_65 (lv_at hl 4 rfl) ?_
            refine lv_iload hx hb dX1_readWay_67 (lv_at hl 2 rfl) ?_
            obtain ⟨hin, hf⟩ := xs_f hf
            refine x_iast hx hb hw (cX45 hE) hin dX1_readWay_69 (fun σ7 H locs ex hw => ?_)
            replace hf := hf σ7 ex
            clear ex hin
            obtain ⟨v8, ex⟩ : ∃ y : Int32, y = (a4 + (-1)) := ⟨_, rfl⟩
            replace hf := xl_f hf v8 ex
            refine lv_iinc (v := v8) (lv' := [(4, .int v8), (3, .int v6), (2, .int v3), (5, .int v2), (0, .ref (E.a 38))]) hx hb dX1_readWay_70 hl (k := 4) rfl (by rw [ex]; rfl) (by decide) rfl (fun ls hl => ?_)
            clear ex
            refine lv_goto (tgt := 12) hx hb dX1_readWay_73 (by decide) ?_
            exact ih12 v3 v6 v8 σ7 _ _ _ hw (lv_sub hl [4, 2, 1, 0] rfl) hf
          · replace hf := xif_neg c49 hf
            refine lv_iconst (v := 0) hx hb dX1_readWay_52 (by decide) ?_
            exact x_zretc hx hb hr hlk hw (by decide) hf dX1_readWay_53
  refine lv_iload_n hx hb dX1_readWay_0 rfl (lv_at hl 1 rfl) ?_
  refine lv_istore_n (lv' := [(2, .int p0), (0, .ref (E.a 38)), (1, .int p0)]) hx hb dX1_readWay_1 rfl hl (by decide) rfl (fun ls hl => ?_)
  refine lv_iconst (v := 0) hx hb dX1_readWay_2 (by decide) ?_
  refine lv_istore_n (lv' := [(3, .int 0), (2, .int p0), (0, .ref (E.a 38)), (1, .int p0)]) hx hb dX1_readWay_3 rfl hl (by decide) rfl (fun ls hl => ?_)
  refine lv_aload_n hx hb dX1_readWay_4 rfl (lv_at hl 2 rfl) ?_
  refine x_geti hx hb hw (cX38 hE) (own := RX1) (ref := RX1) (C := RX1) (T := TX1) (N := 9) hts hiX1 hown rfl 5 (by decide) hk45 (fun _ h9 => h9) rfl dX1_readWay_5 ?_
  refine lv_iconst (v := 1) hx hb dX1_readWay_8 (by decide) ?_
  refine lv_isub hx hb dX1_readWay_9 ?_
  refine lv_topi (fun v1 ex => ?_)
  replace hf := xl_f hf v1 ex
  clear ex
  refine lv_istore (lv' := [(4, .int v1), (3, .int 0), (2, .int p0), (0, .ref (E.a 38)), (1, .int p0)]) hx hb dX1_readWay_10 hl (by decide) rfl (fun ls hl => ?_)
  exact h12 xFU p0 0 v1 σ _ _ _ hw (lv_sub hl [3, 2, 1, 0] rfl) hf

def fX1_walk_c8 : Nat → Int32 → Int32 → Int32 → xSt → Option (Int32 × xSt)
  | 0 => fun _ _ _ _ => none
  | n + 1 => fun a2 a3 a4 σ => (if (σ 38 5) ≤ a4 then (xc2 (fX1_minutesBetween a3 7 σ) fun r1 σ2 => some ((a2 + r1), σ2)) else (xr σ 45 7 a4 fun v3 => (xc2 (fX1_leaves v3 a3 a2 σ) fun r4 σ5 => (if r4 = (-1) then some ((-1), σ5) else (xr σ5 45 7 a4 fun v6 => (xl (a4 + 1) fun v7 => fX1_walk_c8 n r4 v6 v7 σ5))))))
theorem fX1_walk_c8_s (n : Nat) (a2 : Int32) (a3 : Int32) (a4 : Int32) (σ : xSt) : fX1_walk_c8 (n + 1) a2 a3 a4 σ = ((if (σ 38 5) ≤ a4 then (xc2 (fX1_minutesBetween a3 7 σ) fun r1 σ2 => some ((a2 + r1), σ2)) else (xr σ 45 7 a4 fun v3 => (xc2 (fX1_leaves v3 a3 a2 σ) fun r4 σ5 => (if r4 = (-1) then some ((-1), σ5) else (xr σ5 45 7 a4 fun v6 => (xl (a4 + 1) fun v7 => fX1_walk_c8 n r4 v6 v7 σ5)))))) : Option (Int32 × xSt)) := rfl
def fX1_walk (p0 : Int32) (σ : xSt) : Option (Int32 × xSt) := fX1_walk_c8 xFU p0 7 0 σ
abbrev rmX1_walk : Room := { frames := 3, cells := 0, slots := 0, locals := 78 }
set_option maxRecDepth 100000 in
set_option maxHeartbeats 4000000 in
theorem mX1_walk {l : Launch} {E : xE} (hE : E.sh = shX) (p0 : Int32) (σ : xSt) (o1 : Int32) (o2 : xSt) (hf : fX1_walk p0 σ = some (o1, o2)) : xMi l yX1_walk wsX1_walk rmX1_walk E [.ref (E.a 38), .int p0] σ o1 o2 := by
  unfold fX1_walk at hf
  refine xMi_of (cc := cX1_walk) (maxL := 5) (ret := (some .int)) (by decide) rfl (Nat.le_of_ble_eq_true rfl) ?_
  intro p e s m args below meth c A ls ⟨hx, hb, hr, hml, hown, hts, hlk⟩ hA hG hw hl
  have hown : s.vm.findClass RX1 = some m.cls := hown
  have hl : lv_has ls 5 [(0, .ref (E.a 38)), (1, .int p0)] := hl
  have hk45 := hts (.fieldLink RX1 45 "OvenRound$Cart" "count" "I") (by decide +kernel)
  have hiX1 : ∀ w ∈ wsX10, w ∈ wsX1_walk := by decide +kernel
  have hk30 := hts (.fieldLink RX1 30 "OvenRound$Cart" "way" "[I") (by decide +kernel)
  have h8 : ∀ (n : Nat) (a2 : Int32) (a3 : Int32) (a4 : Int32) (σ : xSt) (H : Heap) (locs : List Loc) (ls : Array Slot), xw E A s.heap s σ H locs → lv_has ls 5 [(0, .ref (E.a 38)), (2, .int a2), (3, .int a3), (4, .int a4)] → fX1_walk_c8 n a2 a3 a4 σ = some (o1, o2) → W p l e rmX1_walk s m args below meth c H locs 0 0 (MQ below (xQi E A o1 o2) args s 0 0 A) (F0 m 8 ls []) := by
    intro n8
    induction n8 with
    | zero => intro a2 a3 a4 σ H locs ls hw hl hf; exact nomatch hf
    | succ n8 ih8 =>
      intro a2 a3 a4 σ H locs ls hw hl hf
      rw [fX1_walk_c8_s] at hf
      refine lv_iload hx hb dX1_walk_8 (lv_at hl 3 rfl) ?_
      refine lv_aload_n hx hb dX1_walk_10 rfl (lv_at hl 0 rfl) ?_
      refine x_geti hx hb hw (cX38 hE) (own := RX1) (ref := RX1) (C := RX1) (T := TX1) (N := 9) hts hiX1 hown rfl 5 (by decide) hk45 (fun _ h9 => h9) rfl dX1_walk_11 ?_
      refine lv_icmp_ge (tgt := 52) hx hb dX1_walk_14 (by decide) (fun c14 => ?_) (fun c14 => ?_)
      · replace hf := xif_pos c14 hf
        refine lv_iload_n hx hb dX1_walk_52 rfl (lv_at hl 1 rfl) ?_
        refine lv_aload_n hx hb dX1_walk_53 rfl (lv_at hl 0 rfl) ?_
        refine lv_iload_n hx hb dX1_walk_54 rfl (lv_at hl 2 rfl) ?_
        refine lv_bipush (v := 7) hx hb dX1_walk_55 (by decide) ?_
        obtain ⟨r1, σ2, hcl, hf⟩ := xc2_f hf
        refine x_calli (va_runV (As := [.int a3, .int 7]) (rest := [.int a2]) ⟨hx, hb, hml, hown, hts⟩ (mX1_minutesBetween hE a3 7 σ r1 σ2 hcl H.size) (cwV 2 hts gX1_walk_X1_minutesBetween rfl rfl rfl (by decide +kernel) ⟨Nat.le_of_ble_eq_true rfl, Nat.le_of_ble_eq_true rfl⟩) (x_preV _ hw hA hG (cX38 hE) rfl) rfl rfl hl.1 rfl (lv_room (Nat.le_of_ble_eq_true rfl)) dX1_walk_57 ⟨Nat.le_of_ble_eq_true rfl, Nat.le_of_ble_eq_true rfl⟩) hw hA (fun H locs hw => ?_)
        clear hcl
        refine lv_iadd hx hb dX1_walk_60 ?_
        exact x_iret hx hb hr hlk hw hf dX1_walk_61
      · replace hf := xif_neg c14 hf
        refine lv_aload_n hx hb dX1_walk_17 rfl (lv_at hl 0 rfl) ?_
        refine lv_aload_n hx hb dX1_walk_18 rfl (lv_at hl 0 rfl) ?_
        refine x_getr hx hb hw (cX38 hE) (own := RX1) (ref := RX1) (C := RX1) (T := TX1) (N := 9) hts hiX1 hown rfl 8 (by decide) hk30 (fun _ h9 => h9) rfl dX1_walk_19 ?_
        refine lv_iload hx hb dX1_walk_22 (lv_at hl 3 rfl) ?_
        obtain ⟨hin, hf⟩ := xr_f hf
        refine x_iald hx hb hw (cX45 hE) hin dX1_walk_24 ?_
        refine lv_topi (fun v3 ex => ?_)
        replace hf := hf v3 ex
        clear ex hin
        refine lv_iload_n hx hb dX1_walk_25 rfl (lv_at hl 2 rfl) ?_
        refine lv_iload_n hx hb dX1_walk_26 rfl (lv_at hl 1 rfl) ?_
        obtain ⟨r4, σ5, hcl, hf⟩ := xc2_f hf
        refine x_calli (va_runV (As := [.int v3, .int a3, .int a2]) (rest := []) ⟨hx, hb, hml, hown, hts⟩ (mX1_leaves hE v3 a3 a2 σ r4 σ5 hcl H.size) (cwV 3 hts gX1_walk_X1_leaves rfl rfl rfl (by decide +kernel) ⟨Nat.le_of_ble_eq_true rfl, Nat.le_of_ble_eq_true rfl⟩) (x_preV _ hw hA hG (cX38 hE) rfl) rfl rfl hl.1 rfl (lv_room (Nat.le_of_ble_eq_true rfl)) dX1_walk_27 ⟨Nat.le_of_ble_eq_true rfl, Nat.le_of_ble_eq_true rfl⟩) hw hA (fun H locs hw => ?_)
        clear hcl
        refine lv_istore_n (lv' := [(2, .int r4), (0, .ref (E.a 38)), (3, .int a3), (4, .int a4)]) hx hb dX1_walk_30 rfl hl (by decide) rfl (fun ls hl => ?_)
        refine lv_iload_n hx hb dX1_walk_31 rfl (lv_at hl 0 rfl) ?_
        refine lv_iconst (v := (-1)) hx hb dX1_walk_32 (by decide) ?_
        refine lv_icmp_ne (tgt := 38) hx hb dX1_walk_33 (by decide) (fun c33 => ?_) (fun c33 => ?_)
        · replace hf := xif_neg c33 hf
          refine lv_aload_n hx hb dX1_walk_38 rfl (lv_at hl 1 rfl) ?_
          refine x_getr hx hb hw (cX38 hE) (own := RX1) (ref := RX1) (C := RX1) (T := TX1) (N := 9) hts hiX1 hown rfl 8 (by decide) hk30 (fun _ h9 => h9) rfl dX1_walk_39 ?_
          refine lv_iload hx hb dX1_walk_42 (lv_at hl 3 rfl) ?_
          obtain ⟨hin, hf⟩ := xr_f hf
          refine x_iald hx hb hw (cX45 hE) hin dX1_walk_44 ?_
          refine lv_topi (fun v6 ex => ?_)
          replace hf := hf v6 ex
          clear ex hin
          refine lv_istore_n (lv' := [(3, .int v6), (2, .int r4), (0, .ref (E.a 38)), (4, .int a4)]) hx hb dX1_walk_45 rfl hl (by decide) rfl (fun ls hl => ?_)
          obtain ⟨v7, ex⟩ : ∃ y : Int32, y = (a4 + 1) := ⟨_, rfl⟩
          replace hf := xl_f hf v7 ex
          refine lv_iinc (v := v7) (lv' := [(4, .int v7), (3, .int v6), (2, .int r4), (0, .ref (E.a 38))]) hx hb dX1_walk_46 hl (k := 3) rfl (by rw [ex]; rfl) (by decide) rfl (fun ls hl => ?_)
          clear ex
          refine lv_goto (tgt := 8) hx hb dX1_walk_49 (by decide) ?_
          exact ih8 r4 v6 v7 σ5 _ _ _ hw (lv_sub hl [3, 2, 1, 0] rfl) hf
        · replace hf := xif_pos c33 hf
          refine lv_iconst (v := (-1)) hx hb dX1_walk_36 (by decide) ?_
          exact x_iret hx hb hr hlk hw hf dX1_walk_37
  refine lv_iload_n hx hb dX1_walk_0 rfl (lv_at hl 1 rfl) ?_
  refine lv_istore_n (lv' := [(2, .int p0), (0, .ref (E.a 38)), (1, .int p0)]) hx hb dX1_walk_1 rfl hl (by decide) rfl (fun ls hl => ?_)
  refine lv_bipush (v := 7) hx hb dX1_walk_2 (by decide) ?_
  refine lv_istore_n (lv' := [(3, .int 7), (2, .int p0), (0, .ref (E.a 38)), (1, .int p0)]) hx hb dX1_walk_4 rfl hl (by decide) rfl (fun ls hl => ?_)
  refine lv_iconst (v := 0) hx hb dX1_walk_5 (by decide) ?_
  refine lv_istore (lv' := [(4, .int 0), (3, .int 7), (2, .int p0), (0, .ref (E.a 38)), (1, .int p0)]) hx hb dX1_walk_6 hl (by decide) rfl (fun ls hl => ?_)
  exact h8 xFU p0 7 0 σ _ _ _ hw (lv_sub hl [3, 2, 1, 0] rfl) hf

def fX11_swap (q0 n0 : Nat) (p1 : Int32) (p2 : Int32) (σ : xSt) : Option xSt := (xr σ q0 n0 p1 fun v1 => (xr σ q0 n0 p2 fun v2 => (xs σ q0 n0 p1 v2 fun σ3 => (xs σ3 q0 n0 p2 v1 fun σ4 => some σ4))))
abbrev rmX11_swap : Room := { frames := 0, cells := 0, slots := 0, locals := 0 }
set_option maxRecDepth 100000 in
set_option maxHeartbeats 4000000 in
theorem mX11_swap {l : Launch} {E : xE} (hE : E.sh = shX) (q0 n0 : Nat) (hq_q0 : E.sh[q0]? = some (.inl n0)) (p1 : Int32) (p2 : Int32) (σ : xSt) (o1 : xSt) (hf : fX11_swap q0 n0 p1 p2 σ = some o1) : xMv l yX11_swap wsX11_swap rmX11_swap E [.ref (E.a q0), .int p1, .int p2] σ o1 := by
  unfold fX11_swap at hf
  refine xMv_of (cc := cX11_swap) (maxL := 4) (ret := none) (by decide) rfl (Nat.le_of_ble_eq_true rfl) ?_
  intro p e s m args below meth c A ls ⟨hx, hb, hr, hml, hown, hts, hlk⟩ hA hG hw hl
  have hown : s.vm.findClass RX11 = some m.cls := hown
  have hl : lv_has ls 4 [(0, .ref (E.a q0)), (1, .int p1), (2, .int p2)] := hl
  refine lv_aload_n hx hb dX11_swap_0 rfl (lv_at hl 0 rfl) ?_
  refine lv_iload_n hx hb dX11_swap_1 rfl (lv_at hl 1 rfl) ?_
  obtain ⟨hin, hf⟩ := xr_f hf
  refine x_iald hx hb hw hq_q0 hin dX11_swap_2 ?_
  refine lv_topi (fun v1 ex => ?_)
  replace hf := hf v1 ex
  clear ex hin
  refine lv_istore_n (lv' := [(3, .int v1), (0, .ref (E.a q0)), (1, .int p1), (2, .int p2)]) hx hb dX11_swap_3 rfl hl (by decide) rfl (fun ls hl => ?_)
  refine lv_aload_n hx hb dX11_swap_4 rfl (lv_at hl 1 rfl) ?_
  refine lv_iload_n hx hb dX11_swap_5 rfl (lv_at hl 2 rfl) ?_
  refine lv_aload_n hx hb dX11_swap_6 rfl (lv_at hl 1 rfl) ?_
  refine lv_iload_n hx hb dX11_swap_7 rfl (lv_at hl 3 rfl) ?_
  obtain ⟨hin, hf⟩ := xr_f hf
  refine x_iald hx hb hw hq_q0 hin dX11_swap_8 ?_
  refine lv_topi (fun v2 ex => ?_)
  replace hf := hf v2 ex
  clear ex hin
  obtain ⟨hin, hf⟩ := xs_f hf
  refine x_iast hx hb hw hq_q0 hin dX11_swap_9 (fun σ3 H locs ex hw => ?_)
  replace hf := hf σ3 ex
  clear ex hin
  refine lv_aload_n hx hb dX11_swap_10 rfl (lv_at hl 1 rfl) ?_
  refine lv_iload_n hx hb dX11_swap_11 rfl (lv_at hl 3 rfl) ?_
  refine lv_iload_n hx hb dX11_swap_12 rfl (lv_at hl 0 rfl) ?_
  obtain ⟨hin, hf⟩ := xs_f hf
  refine x_iast hx hb hw hq_q0 hin dX11_swap_13 (fun σ4 H locs ex hw => ?_)
  replace hf := hf σ4 ex
  clear ex hin
  exact x_vret hx hb hr hlk hw hf dX11_swap_14
