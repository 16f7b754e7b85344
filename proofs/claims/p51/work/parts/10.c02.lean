def fX11_makeNextOrder_c71 (q0 n0 : Nat) : Nat → Int32 → Int32 → xSt → Option (Int32 × xSt)
  | 0 => fun _ _ _ => none
  | n + 1 => fun a4 a5 σ => (if a5 ≤ a4 then some (1, σ) else (xc (fX11_swap q0 n0 a4 a5 σ) fun σ14 => (xl (a4 + 1) fun v15 => (xl (a5 + (-1)) fun v16 => fX11_makeNextOrder_c71 q0 n0 n v15 v16 σ14))))
theorem fX11_makeNextOrder_c71_s (q0 n0 : Nat) (n : Nat) (a4 : Int32) (a5 : Int32) (σ : xSt) : fX11_makeNextOrder_c71 q0 n0 (n + 1) a4 a5 σ = ((if a5 ≤ a4 then some (1, σ) else (xc (fX11_swap q0 n0 a4 a5 σ) fun σ14 => (xl (a4 + 1) fun v15 => (xl (a5 + (-1)) fun v16 => fX11_makeNextOrder_c71 q0 n0 n v15 v16 σ14)))) : Option (Int32 × xSt)) := rfl
def fX11_makeNextOrder_c55 (q0 n0 : Nat) (a1 : Int32) (a2 : Int32) (a3 : Int32) (σ : xSt) : Option (Int32 × xSt) := (xc (fX11_swap q0 n0 a2 a3 σ) fun σ10 => (xl (a2 + 1) fun v11 => (xl (a1 - 1) fun v12 => fX11_makeNextOrder_c71 q0 n0 xFU v11 v12 σ10)))
def fX11_makeNextOrder_c35 (q0 n0 : Nat) : Nat → Int32 → Int32 → Int32 → xSt → Option (Int32 × xSt)
  | 0 => fun _ _ _ _ => none
  | n + 1 => fun a1 a2 a3 σ => (if a3 ≤ a2 then fX11_makeNextOrder_c55 q0 n0 a1 a2 a3 σ else (xr σ q0 n0 a3 fun v6 => (xr σ q0 n0 a2 fun v7 => (if v7 ≤ v6 then fX11_makeNextOrder_c55 q0 n0 a1 a2 a3 σ else (xl (a3 + (-1)) fun v8 => fX11_makeNextOrder_c35 q0 n0 n a1 a2 v8 σ)))))
theorem fX11_makeNextOrder_c35_s (q0 n0 : Nat) (n : Nat) (a1 : Int32) (a2 : Int32) (a3 : Int32) (σ : xSt) : fX11_makeNextOrder_c35 q0 n0 (n + 1) a1 a2 a3 σ = ((if a3 ≤ a2 then fX11_makeNextOrder_c55 q0 n0 a1 a2 a3 σ else (xr σ q0 n0 a3 fun v6 => (xr σ q0 n0 a2 fun v7 => (if v7 ≤ v6 then fX11_makeNextOrder_c55 q0 n0 a1 a2 a3 σ else (xl (a3 + (-1)) fun v8 => fX11_makeNextOrder_c35 q0 n0 n a1 a2 v8 σ))))) : Option (Int32 × xSt)) := rfl
def fX11_makeNextOrder_c25 (q0 n0 : Nat) (a1 : Int32) (a2 : Int32) (σ : xSt) : Option (Int32 × xSt) := (if 0 ≤ a2 then (xl (a1 - 1) fun v5 => fX11_makeNextOrder_c35 q0 n0 xFU a1 a2 v5 σ) else some (0, σ))
def fX11_makeNextOrder_c4 (q0 n0 : Nat) : Nat → Int32 → Int32 → xSt → Option (Int32 × xSt)
  | 0 => fun _ _ _ => none
  | n + 1 => fun a1 a2 σ => (if a2 < 0 then fX11_makeNextOrder_c25 q0 n0 a1 a2 σ else (xr σ q0 n0 a2 fun v2 => (xr σ q0 n0 (a2 + 1) fun v3 => (if v2 ≤ v3 then fX11_makeNextOrder_c25 q0 n0 a1 a2 σ else (xl (a2 + (-1)) fun v4 => fX11_makeNextOrder_c4 q0 n0 n a1 v4 σ)))))
theorem fX11_makeNextOrder_c4_s (q0 n0 : Nat) (n : Nat) (a1 : Int32) (a2 : Int32) (σ : xSt) : fX11_makeNextOrder_c4 q0 n0 (n + 1) a1 a2 σ = ((if a2 < 0 then fX11_makeNextOrder_c25 q0 n0 a1 a2 σ else (xr σ q0 n0 a2 fun v2 => (xr σ q0 n0 (a2 + 1) fun v3 => (if v2 ≤ v3 then fX11_makeNextOrder_c25 q0 n0 a1 a2 σ else (xl (a2 + (-1)) fun v4 => fX11_makeNextOrder_c4 q0 n0 n a1 v4 σ))))) : Option (Int32 × xSt)) := rfl
def fX11_makeNextOrder (q0 n0 : Nat) (p1 : Int32) (σ : xSt) : Option (Int32 × xSt) := (xl (p1 - 2) fun v1 => fX11_makeNextOrder_c4 q0 n0 xFU p1 v1 σ)
abbrev rmX11_makeNextOrder : Room := { frames := 1, cells := 0, slots := 0, locals := 23 }
set_option maxRecDepth 100000 in
set_option maxHeartbeats 4000000 in
theorem mX11_makeNextOrder {l : Launch} {E : xE} (hE : E.sh = shX) (q0 n0 : Nat) (hq_q0 : E.sh[q0]? = some (.inl n0)) (p1 : Int32) (σ : xSt) (o1 : Int32) (o2 : xSt) (hf : fX11_makeNextOrder q0 n0 p1 σ = some (o1, o2)) : xMi l yX11_makeNextOrder wsX11_makeNextOrder rmX11_makeNextOrder E [.ref (E.a q0), .int p1] σ o1 o2 := by
  unfold fX11_makeNextOrder at hf
  refine xMi_of (cc := cX11_makeNextOrder) (maxL := 6) (ret := (some .boolean)) (by decide) rfl (Nat.le_of_ble_eq_true rfl) ?_
  intro p e s m args below meth c A ls ⟨hx, hb, hr, hml, hown, hts, hlk⟩ hA hG hw hl
  have hown : s.vm.findClass RX11 = some m.cls := hown
  have hl : lv_has ls 6 [(0, .ref (E.a q0)), (1, .int p1)] := hl
  have h71 : ∀ (n : Nat) (a4 : Int32) (a5 : Int32) (σ : xSt) (H : Heap) (locs : List Loc) (ls : Array Slot), xw E A s.heap s σ H locs → lv_has ls 6 [(0, .ref (E.a q0)), (4, .int a4), (5, .int a5)] → fX11_makeNextOrder_c71 q0 n0 n a4 a5 σ = some (o1, o2) → W p l e rmX11_makeNextOrder s m args below meth c H locs 0 0 (MQ below (xQi E A o1 o2) args s 0 0 A) (F0 m 71 ls []) := by
    intro n71
    induction n71 with
    | zero => intro a4 a5 σ H locs ls hw hl hf; exact nomatch hf
    | succ n71 ih71 =>
      intro a4 a5 σ H locs ls hw hl hf
      rw [fX11_makeNextOrder_c71_s] at hf
      refine lv_iload hx hb dX11_makeNextOrder_71 (lv_at hl 1 rfl) ?_
      refine lv_iload hx hb dX11_makeNextOrder_73 (lv_at hl 2 rfl) ?_
      refine lv_icmp_ge (tgt := 95) hx hb dX11_makeNextOrder_75 (by decide) (fun c75 => ?_) (fun c75 => ?_)
      · replace hf := xif_pos c75 hf
        refine lv_iconst (v := 1) hx hb dX11_makeNextOrder_95 (by decide) ?_
        exact x_zretc hx hb hr hlk hw (by decide) hf dX11_makeNextOrder_96
      · replace hf := xif_neg c75 hf
        refine lv_aload_n hx hb dX11_makeNextOrder_78 rfl (lv_at hl 0 rfl) ?_
        refine lv_iload hx hb dX11_makeNextOrder_79 (lv_at hl 1 rfl) ?_
        refine lv_iload hx hb dX11_makeNextOrder_81 (lv_at hl 2 rfl) ?_
        obtain ⟨σ14, hcl, hf⟩ := xc_e hf
        refine x_callv (va_runS (As := [.ref (E.a q0), .int a4, .int a5]) (rest := []) ⟨hx, hb, hml, hown, hts⟩ (mX11_swap hE q0 n0 hq_q0 a4 a5 σ σ14 hcl H.size) (va_cwS 3 hts gX11_makeNextOrder_X11_swap rfl rfl rfl (by decide +kernel) ⟨Nat.le_of_ble_eq_true rfl, Nat.le_of_ble_eq_true rfl⟩) (x_preS _ hw hA hG) rfl rfl hl.1 rfl (lv_room (Nat.le_of_ble_eq_true rfl)) dX11_makeNextOrder_83 ⟨Nat.le_of_ble_eq_true rfl, Nat.le_of_ble_eq_true rfl⟩) hw hA (fun H locs hw => ?_)
        clear hcl
        obtain ⟨v15, ex⟩ : ∃ y : Int32, y = (a4 + 1) := ⟨_, rfl⟩
        replace hf := xl_f hf v15 ex
        refine lv_iinc (v := v15) (lv' := [(4, .int v15), (0, .ref (E.a q0)), (5, .int a5)]) hx hb dX11_makeNextOrder_86 hl (k := 1) rfl (by rw [ex]; rfl) (by decide) rfl (fun ls hl => ?_)
        clear ex
        obtain ⟨v16, ex⟩ : ∃ y : Int32, y = (a5 + (-1)) := ⟨_, rfl⟩
        replace hf := xl_f hf v16 ex
        refine lv_iinc (v := v16) (lv' := [(5, .int v16), (4, .int v15), (0, .ref (E.a q0))]) hx hb dX11_makeNextOrder_89 hl (k := 2) rfl (by rw [ex]; rfl) (by decide) rfl (fun ls hl => ?_)
        clear ex
        refine lv_goto (tgt := 71) hx hb dX11_makeNextOrder_92 (by decide) ?_
        exact ih71 v15 v16 σ14 _ _ _ hw (lv_sub hl [2, 1, 0] rfl) hf
  have h55 : ∀ (a1 : Int32) (a2 : Int32) (a3 : Int32) (σ : xSt) (H : Heap) (locs : List Loc) (ls : Array Slot), xw E A s.heap s σ H locs → lv_has ls 6 [(0, .ref (E.a q0)), (1, .int a1), (2, .int a2), (3, .int a3)] → fX11_makeNextOrder_c55 q0 n0 a1 a2 a3 σ = some (o1, o2) → W p l e rmX11_makeNextOrder s m args below meth c H locs 0 0 (MQ below (xQi E A o1 o2) args s 0 0 A) (F0 m 55 ls []) := by
    intro a1 a2 a3 σ H locs ls hw hl hf
    unfold fX11_makeNextOrder_c55 at hf
    refine lv_aload_n hx hb dX11_makeNextOrder_55 rfl (lv_at hl 0 rfl) ?_
    refine lv_iload_n hx hb dX11_makeNextOrder_56 rfl (lv_at hl 2 rfl) ?_
    refine lv_iload_n hx hb dX11_makeNextOrder_57 rfl (lv_at hl 3 rfl) ?_
    obtain ⟨σ10, hcl, hf⟩ := xc_e hf
    refine x_callv (va_runS (As := [.ref (E.a q0), .int a2, .int a3]) (rest := []) ⟨hx, hb, hml, hown, hts⟩ (mX11_swap hE q0 n0 hq_q0 a2 a3 σ σ10 hcl H.size) (va_cwS 3 hts gX11_makeNextOrder_X11_swap rfl rfl rfl (by decide +kernel) ⟨Nat.le_of_ble_eq_true rfl, Nat.le_of_ble_eq_true rfl⟩) (x_preS _ hw hA hG) rfl rfl hl.1 rfl (lv_room (Nat.le_of_ble_eq_true rfl)) dX11_makeNextOrder_58 ⟨Nat.le_of_ble_eq_true rfl, Nat.le_of_ble_eq_true rfl⟩) hw hA (fun H locs hw => ?_)
    clear hcl
    refine lv_iload_n hx hb dX11_makeNextOrder_61 rfl (lv_at hl 2 rfl) ?_
    refine lv_iconst (v := 1) hx hb dX11_makeNextOrder_62 (by decide) ?_
    refine lv_iadd hx hb dX11_makeNextOrder_63 ?_
    refine lv_topi (fun v11 ex => ?_)
    replace hf := xl_f hf v11 ex
    clear ex
    refine lv_istore (lv' := [(4, .int v11), (0, .ref (E.a q0)), (1, .int a1), (2, .int a2), (3, .int a3)]) hx hb dX11_makeNextOrder_64 hl (by decide) rfl (fun ls hl => ?_)
    refine lv_iload_n hx hb dX11_makeNextOrder_66 rfl (lv_at hl 2 rfl) ?_
    refine lv_iconst (v := 1) hx hb dX11_makeNextOrder_67 (by decide) ?_
    refine lv_isub hx hb dX11_makeNextOrder_68 ?_
    refine lv_topi (fun v12 ex => ?_)
    replace hf := xl_f hf v12 ex
    clear ex
    refine lv_istore (lv' := [(5, .int v12), (4, .int v11), (0, .ref (E.a q0)), (1, .int a1), (2, .int a2), (3, .int a3)]) hx hb dX11_makeNextOrder_69 hl (by decide) rfl (fun ls hl => ?_)
    exact h71 xFU v11 v12 σ10 _ _ _ hw (lv_sub hl [2, 1, 0] rfl) hf
  have h35 : ∀ (n : Nat) (a1 : Int32) (a2 : Int32) (a3 : Int32) (σ : xSt) (H : Heap) (locs : List Loc) (ls : Array Slot), xw E A s.heap s σ H locs → lv_has ls 6 [(0, .ref (E.a q0)), (1, .int a1), (2, .int a2), (3, .int a3)] → fX11_makeNextOrder_c35 q0 n0 n a1 a2 a3 σ = some (o1, o2) → W p l e rmX11_makeNextOrder s m args below meth c H locs 0 0 (MQ below (xQi E A o1 o2) args s 0 0 A) (F0 m 35 ls []) := by
    intro n35
    induction n35 with
    | zero => intro a1 a2 a3 σ H locs ls hw hl hf; exact nomatch hf
    | succ n35 ih35 =>
      intro a1 a2 a3 σ H locs ls hw hl hf
      rw [fX11_makeNextOrder_c35_s] at hf
      refine lv_iload_n hx hb dX11_makeNextOrder_35 rfl (lv_at hl 3 rfl) ?_
      refine lv_iload_n hx hb dX11_makeNextOrder_36 rfl (lv_at hl 2 rfl) ?_
      refine lv_icmp_le (tgt := 55) hx hb dX11_makeNextOrder_37 (by decide) (fun c37 => ?_) (fun c37 => ?_)
      · replace hf := xif_pos c37 hf
        exact h55 a1 a2 a3 σ _ _ _ hw (lv_sub hl [0, 1, 2, 3] rfl) hf
      · replace hf := xif_neg c37 hf
        refine lv_aload_n hx hb dX11_makeNextOrder_40 rfl (lv_at hl 0 rfl) ?_
        refine lv_iload_n hx hb dX11_makeNextOrder_41 rfl (lv_at hl 3 rfl) ?_
        obtain ⟨hin, hf⟩ := xr_f hf
        refine x_iald hx hb hw hq_q0 hin dX11_makeNextOrder_42 ?_
        refine lv_topi (fun v6 ex => ?_)
        replace hf := hf v6 ex
        clear ex hin
        refine lv_aload_n hx hb dX11_makeNextOrder_43 rfl (lv_at hl 0 rfl) ?_
        refine lv_iload_n hx hb dX11_makeNextOrder_44 rfl (lv_at hl 2 rfl) ?_
        obtain ⟨hin, hf⟩ := xr_f hf
        refine x_iald hx hb hw hq_q0 hin dX11_makeNextOrder_45 ?_
        refine lv_topi (fun v7 ex => ?_)
        replace hf := hf v7 ex
        clear ex hin
        refine lv_icmp_ge (tgt := 55) hx hb dX11_makeNextOrder_46 (by decide) (fun c46 => ?_) (fun c46 => ?_)
        · replace hf := xif_pos c46 hf
          exact h55 a1 a2 a3 σ _ _ _ hw (lv_sub hl [0, 1, 2, 3] rfl) hf
        · replace hf := xif_neg c46 hf
          obtain ⟨v8, ex⟩ : ∃ y : Int32, y = (a3 + (-1)) := ⟨_, rfl⟩
          replace hf := xl_f hf v8 ex
          refine lv_iinc (v := v8) (lv' := [(3, .int v8), (0, .ref (E.a q0)), (1, .int a1), (2, .int a2)]) hx hb dX11_makeNextOrder_49 hl (k := 3) rfl (by rw [ex]; rfl) (by decide) rfl (fun ls hl => ?_)
          clear ex
          refine lv_goto (tgt := 35) hx hb dX11_makeNextOrder_52 (by decide) ?_
          exact ih35 a1 a2 v8 σ _ _ _ hw (lv_sub hl [1, 2, 3, 0] rfl) hf
  have h25 : ∀ (a1 : Int32) (a2 : Int32) (σ : xSt) (H : Heap) (locs : List Loc) (ls : Array Slot), xw E A s.heap s σ H locs → lv_has ls 6 [(0, .ref (E.a q0)), (1, .int a1), (2, .int a2)] → fX11_makeNextOrder_c25 q0 n0 a1 a2 σ = some (o1, o2) → W p l e rmX11_makeNextOrder s m args below meth c H locs 0 0 (MQ below (xQi E A o1 o2) args s 0 0 A) (F0 m 25 ls []) := by
    intro a1 a2 σ H locs ls hw hl hf
    unfold fX11_makeNextOrder_c25 at hf
    refine lv_iload_n hx hb dX11_makeNextOrder_25 rfl (lv_at hl 2 rfl) ?_
    refine lv_if_ge (tgt := 31) hx hb dX11_makeNextOrder_26 (by decide) (fun c26 => ?_) (fun c26 => ?_)
    · replace hf := xif_pos c26 hf
      refine lv_iload_n hx hb dX11_makeNextOrder_31 rfl (lv_at hl 1 rfl) ?_
      refine lv_iconst (v := 1) hx hb dX11_makeNextOrder_32 (by decide) ?_
      refine lv_isub hx hb dX11_makeNextOrder_33 ?_
      refine lv_topi (fun v5 ex => ?_)
      replace hf := xl_f hf v5 ex
      clear ex
      refine lv_istore_n (lv' := [(3, .int v5), (0, .ref (E.a q0)), (1, .int a1), (2, .int a2)]) hx hb dX11_makeNextOrder_34 rfl hl (by decide) rfl (fun ls hl => ?_)
      exact h35 xFU a1 a2 v5 σ _ _ _ hw (lv_sub hl [1, 2, 3, 0] rfl) hf
    · replace hf := xif_neg c26 hf
      refine lv_iconst (v := 0) hx hb dX11_makeNextOrder_29 (by decide) ?_
      exact x_zretc hx hb hr hlk hw (by decide) hf dX11_makeNextOrder_30
  have h4 : ∀ (n : Nat) (a1 : Int32) (a2 : Int32) (σ : xSt) (H : Heap) (locs : List Loc) (ls : Array Slot), xw E A s.heap s σ H locs → lv_has ls 6 [(0, .ref (E.a q0)), (1, .int a1), (2, .int a2)] → fX11_makeNextOrder_c4 q0 n0 n a1 a2 σ = some (o1, o2) → W p l e rmX11_makeNextOrder s m args below meth c H locs 0 0 (MQ below (xQi E A o1 o2) args s 0 0 A) (F0 m 4 ls []) := by
    intro n4
    induction n4 with
    | zero => intro a1 a2 σ H locs ls hw hl hf; exact nomatch hf
    | succ n4 ih4 =>
      intro a1 a2 σ H locs ls hw hl hf
      rw [fX11_makeNextOrder_c4_s] at hf
      refine lv_iload_n hx hb dX11_makeNextOrder_4 rfl (lv_at hl 2 rfl) ?_
      refine lv_if_lt (tgt := 25) hx hb dX11_makeNextOrder_5 (by decide) (fun c5 => ?_) (fun c5 => ?_)
      · replace hf := xif_pos c5 hf
        exact h25 a1 a2 σ _ _ _ hw (lv_sub hl [0, 1, 2] rfl) hf
      · replace hf := xif_neg c5 hf
        refine lv_aload_n hx hb dX11_makeNextOrder_8 rfl (lv_at hl 0 rfl) ?_
        refine lv_iload_n hx hb dX11_makeNextOrder_9 rfl (lv_at hl 2 rfl) ?_
        obtain ⟨hin, hf⟩ := xr_f hf
        refine x_iald hx hb hw hq_q0 hin dX11_makeNextOrder_10 ?_
        refine lv_topi (fun v2 ex => ?_)
        replace hf := hf v2 ex
        clear ex hin
        refine lv_aload_n hx hb dX11_makeNextOrder_11 rfl (lv_at hl 0 rfl) ?_
        refine lv_iload_n hx hb dX11_makeNextOrder_12 rfl (lv_at hl 2 rfl) ?_
        refine lv_iconst (v := 1) hx hb dX11_makeNextOrder_13 (by decide) ?_
        refine lv_iadd hx hb dX11_makeNextOrder_14 ?_
        obtain ⟨hin, hf⟩ := xr_f hf
        refine x_iald hx hb hw hq_q0 hin dX11_makeNextOrder_15 ?_
        refine lv_topi (fun v3 ex => ?_)
        replace hf := hf v3 ex
        clear ex hin
        refine lv_icmp_le (tgt := 25) hx hb dX11_makeNextOrder_16 (by decide) (fun c16 => ?_) (fun c16 => ?_)
        · replace hf := xif_pos c16 hf
          exact h25 a1 a2 σ _ _ _ hw (lv_sub hl [0, 1, 2] rfl) hf
        · replace hf := xif_neg c16 hf
          obtain ⟨v4, ex⟩ : ∃ y : Int32, y = (a2 + (-1)) := ⟨_, rfl⟩
          replace hf := xl_f hf v4 ex
          refine lv_iinc (v := v4) (lv' := [(2, .int v4), (0, .ref (E.a q0)), (1, .int a1)]) hx hb dX11_makeNextOrder_19 hl (k := 2) rfl (by rw [ex]; rfl) (by decide) rfl (fun ls hl => ?_)
          clear ex
          refine lv_goto (tgt := 4) hx hb dX11_makeNextOrder_22 (by decide) ?_
          exact ih4 a1 v4 σ _ _ _ hw (lv_sub hl [1, 2, 0] rfl) hf
  refine lv_iload_n hx hb dX11_makeNextOrder_0 rfl (lv_at hl 1 rfl) ?_
  refine lv_iconst (v := 2) hx hb dX11_makeNextOrder_1 (by decide) ?_
  refine lv_isub hx hb dX11_makeNextOrder_2 ?_
  refine lv_topi (fun v1 ex => ?_)
  replace hf := xl_f hf v1 ex
  clear ex
  refine lv_istore_n (lv' := [(2, .int v1), (0, .ref (E.a q0)), (1, .int p1)]) hx hb dX11_makeNextOrder_3 rfl hl (by decide) rfl (fun ls hl => ?_)
  exact h4 xFU p1 v1 σ _ _ _ hw (lv_sub hl [1, 2, 0] rfl) hf

def fX1_hasEarlierWay_c72 (k41 : (Int32 → Int32 → xSt → Option (Int32 × xSt))) (a1 : Int32) (a2 : Int32) (σ : xSt) : Option (Int32 × xSt) := (xc2 (fX11_makeNextOrder 45 7 (σ 38 5) σ) fun r7 σ8 => (if r7 = 0 then some (0, σ8) else (xl (a2 + 1) fun v9 => k41 a1 v9 σ8)))
def fX1_hasEarlierWay_c41 : Nat → Int32 → Int32 → xSt → Option (Int32 × xSt)
  | 0 => fun _ _ _ => none
  | n + 1 => fun a1 a2 σ => (if 120 ≤ a2 then some (0, σ) else (xc2 (fX1_walk 0 σ) fun r5 σ6 => (if r5 = (-1) then fX1_hasEarlierWay_c72 (fX1_hasEarlierWay_c41 n) a1 a2 σ6 else (if a1 = 0 then some (1, σ6) else (if (σ6 38 7) ≤ r5 then fX1_hasEarlierWay_c72 (fX1_hasEarlierWay_c41 n) a1 a2 σ6 else some (1, σ6))))))
theorem fX1_hasEarlierWay_c41_s (n : Nat) (a1 : Int32) (a2 : Int32) (σ : xSt) : fX1_hasEarlierWay_c41 (n + 1) a1 a2 σ = ((if 120 ≤ a2 then some (0, σ) else (xc2 (fX1_walk 0 σ) fun r5 σ6 => (if r5 = (-1) then fX1_hasEarlierWay_c72 (fX1_hasEarlierWay_c41 n) a1 a2 σ6 else (if a1 = 0 then some (1, σ6) else (if (σ6 38 7) ≤ r5 then fX1_hasEarlierWay_c72 (fX1_hasEarlierWay_c41 n) a1 a2 σ6 else some (1, σ6)))))) : Option (Int32 × xSt)) := rfl
def fX1_hasEarlierWay_c18 : Nat → Int32 → Int32 → xSt → Option (Int32 × xSt)
  | 0 => fun _ _ _ => none
  | n + 1 => fun a1 a2 σ => (if (σ 38 5) ≤ a2 then fX1_hasEarlierWay_c41 xFU a1 0 σ else (xs σ 45 7 a2 a2 fun σ3 => (xl (a2 + 1) fun v4 => fX1_hasEarlierWay_c18 n a1 v4 σ3)))
theorem fX1_hasEarlierWay_c18_s (n : Nat) (a1 : Int32) (a2 : Int32) (σ : xSt) : fX1_hasEarlierWay_c18 (n + 1) a1 a2 σ = ((if (σ 38 5) ≤ a2 then fX1_hasEarlierWay_c41 xFU a1 0 σ else (xs σ 45 7 a2 a2 fun σ3 => (xl (a2 + 1) fun v4 => fX1_hasEarlierWay_c18 n a1 v4 σ3))) : Option (Int32 × xSt)) := rfl
def fX1_hasEarlierWay (σ : xSt) : Option (Int32 × xSt) := (if (σ 38 5) ≤ 5 then (xc2 (fX1_findWay 0 σ) fun r1 σ2 => fX1_hasEarlierWay_c18 xFU r1 0 σ2) else some (0, σ))
abbrev rmX1_hasEarlierWay : Room := { frames := 15, cells := 0, slots := 0, locals := 425 }
set_option maxRecDepth 100000 in
set_option maxHeartbeats 4000000 in
theorem mX1_hasEarlierWay {l : Launch} {E : xE} (hE : E.sh = shX) (σ : xSt) (o1 : Int32) (o2 : xSt) (hf : fX1_hasEarlierWay σ = some (o1, o2)) : xMi l yX1_hasEarlierWay wsX1_hasEarlierWay rmX1_hasEarlierWay E [.ref (E.a 38)] σ o1 o2 := by
  unfold fX1_hasEarlierWay at hf
  refine xMi_of (cc := cX1_hasEarlierWay) (maxL := 4) (ret := (some .boolean)) (by decide) rfl (Nat.le_of_ble_eq_true rfl) ?_
  intro p e s m args below meth c A ls ⟨hx, hb, hr, hml, hown, hts, hlk⟩ hA hG hw hl
  have hown : s.vm.findClass RX1 = some m.cls := hown
  have hl : lv_has ls 4 [(0, .ref (E.a 38))] := hl
  have hk45 := hts (.fieldLink RX1 45 "OvenRound$Cart" "count" "I") (by decide +kernel)
  have hiX1 : ∀ w ∈ wsX10, w ∈ wsX1_hasEarlierWay := by decide +kernel
  have hk30 := hts (.fieldLink RX1 30 "OvenRound$Cart" "way" "[I") (by decide +kernel)
  have hk33 := hts (.fieldLink RX1 33 "OvenRound$Cart" "bestBack" "I") (by decide +kernel)
  have h41 : ∀ (n : Nat) (a1 : Int32) (a2 : Int32) (σ : xSt) (H : Heap) (locs : List Loc) (ls : Array Slot), xw E A s.heap s σ H locs → lv_has ls 4 [(0, .ref (E.a 38)), (1, .int a1), (2, .int a2)] → fX1_hasEarlierWay_c41 n a1 a2 σ = some (o1, o2) → W p l e rmX1_hasEarlierWay s m args below meth c H locs 0 0 (MQ below (xQi E A o1 o2) args s 0 0 A) (F0 m 41 ls []) := by
    intro n41
    induction n41 with
    | zero => intro a1 a2 σ H locs ls hw hl hf; exact nomatch hf
    | succ n41 ih41 =>
      have h72 : ∀ (a1 : Int32) (a2 : Int32) (σ : xSt) (H : Heap) (locs : List Loc) (ls : Array Slot), xw E A s.heap s σ H locs → lv_has ls 4 [(0, .ref (E.a 38)), (1, .int a1), (2, .int a2)] → fX1_hasEarlierWay_c72 (fX1_hasEarlierWay_c41 n41) a1 a2 σ = some (o1, o2) → W p l e rmX1_hasEarlierWay s m args below meth c H locs 0 0 (MQ below (xQi E A o1 o2) args s 0 0 A) (F0 m 72 ls []) := by
        intro a1 a2 σ H locs ls hw hl hf
        unfold fX1_hasEarlierWay_c72 at hf
        refine lv_aload_n hx hb dX1_hasEarlierWay_72 rfl (lv_at hl 0 rfl) ?_
        refine x_getr hx hb hw (cX38 hE) (own := RX1) (ref := RX1) (C := RX1) (T := TX1) (N := 9) hts hiX1 hown rfl 8 (by decide) hk30 (fun _ h9 => h9) rfl dX1_hasEarlierWay_73 ?_
        refine lv_aload_n hx hb dX1_hasEarlierWay_76 rfl (lv_at hl 0 rfl) ?_
        refine x_geti hx hb hw (cX38 hE) (own := RX1) (ref := RX1) (C := RX1) (T := TX1) (N := 9) hts hiX1 hown rfl 5 (by decide) hk45 (fun _ h9 => h9) rfl dX1_hasEarlierWay_77 ?_
        obtain ⟨r7, σ8, hcl, hf⟩ := xc2_f hf
        refine x_calli (va_runSN (As := [.ref (E.a 45), .int (σ 38 5)]) (rest := []) ⟨hx, hb, hml, hown, hts⟩ (mX11_makeNextOrder hE 45 7 (cX45 hE) (σ 38 5) σ r7 σ8 hcl H.size) ⟨va_cnB 2 hts gX1_hasEarlierWay_X11_makeNextOrder_n78 rfl rfl rfl (hG.1 (.methodLinkNest RX1 78 yX11_makeNextOrder RX11) (by decide +kernel)) (hts (.initialized RX11) (by decide +kernel)) (by decide +kernel) ⟨Nat.le_of_ble_eq_true rfl, Nat.le_of_ble_eq_true rfl⟩, hts (.static yX11_makeNextOrder) (by decide +kernel), trivial⟩ (x_preS _ hw hA hG) rfl rfl hl.1 rfl (lv_room (Nat.le_of_ble_eq_true rfl)) dX1_hasEarlierWay_80 ⟨Nat.le_of_ble_eq_true rfl, Nat.le_of_ble_eq_true rfl⟩) hw hA (fun H locs hw => ?_)
        clear hcl
        refine lv_if_ne (tgt := 88) hx hb dX1_hasEarlierWay_83 (by decide) (fun c83 => ?_) (fun c83 => ?_)
        · replace hf := xif_neg c83 hf
          obtain ⟨v9, ex⟩ : ∃ y : Int32, y = (a2 + 1) := ⟨_, rfl⟩
          replace hf := xl_f hf v9 ex
          refine lv_iinc (v := v9) (lv' := [(2, .int v9), (0, .ref (E.a 38)), (1, .int a1)]) hx hb dX1_hasEarlierWay_88 hl (k := 2) rfl (by rw [ex]; rfl) (by decide) rfl (fun ls hl => ?_)
          clear ex
          refine lv_goto (tgt := 41) hx hb dX1_hasEarlierWay_91 (by decide) ?_
          exact ih41 a1 v9 σ8 _ _ _ hw (lv_sub hl [1, 2, 0] rfl) hf
        · replace hf := xif_pos c83 hf
          refine lv_iconst (v := 0) hx hb dX1_hasEarlierWay_86 (by decide) ?_
          exact x_zretc hx hb hr hlk hw (by decide) hf dX1_hasEarlierWay_87
      intro a1 a2 σ H locs ls hw hl hf
      rw [fX1_hasEarlierWay_c41_s] at hf
      refine lv_iload_n hx hb dX1_hasEarlierWay_41 rfl (lv_at hl 2 rfl) ?_
      refine lv_bipush (v := 120) hx hb dX1_hasEarlierWay_42 (by decide) ?_
      refine lv_icmp_ge (tgt := 94) hx hb dX1_hasEarlierWay_44 (by decide) (fun c44 => ?_) (fun c44 => ?_)
      · replace hf := xif_pos c44 hf
        refine lv_iconst (v := 0) hx hb dX1_hasEarlierWay_94 (by decide) ?_
        exact x_zretc hx hb hr hlk hw (by decide) hf dX1_hasEarlierWay_95
      · replace hf := xif_neg c44 hf
        refine lv_aload_n hx hb dX1_hasEarlierWay_47 rfl (lv_at hl 0 rfl) ?_
        refine lv_iconst (v := 0) hx hb dX1_hasEarlierWay_48 (by decide) ?_
        obtain ⟨r5, σ6, hcl, hf⟩ := xc2_f hf
        refine x_calli (va_runV (As := [.int 0]) (rest := []) ⟨hx, hb, hml, hown, hts⟩ (mX1_walk hE 0 σ r5 σ6 hcl H.size) (cwV 1 hts gX1_hasEarlierWay_X1_walk rfl rfl rfl (by decide +kernel) ⟨Nat.le_of_ble_eq_true rfl, Nat.le_of_ble_eq_true rfl⟩) (x_preV _ hw hA hG (cX38 hE) rfl) rfl rfl hl.1 rfl (lv_room (Nat.le_of_ble_eq_true rfl)) dX1_hasEarlierWay_49 ⟨Nat.le_of_ble_eq_true rfl, Nat.le_of_ble_eq_true rfl⟩) hw hA (fun H locs hw => ?_)
        clear hcl
        refine lv_istore_n (lv' := [(3, .int r5), (0, .ref (E.a 38)), (1, .int a1), (2, .int a2)]) hx hb dX1_hasEarlierWay_52 rfl hl (by decide) rfl (fun ls hl => ?_)
        refine lv_iload_n hx hb dX1_hasEarlierWay_53 rfl (lv_at hl 0 rfl) ?_
        refine lv_iconst (v := (-1)) hx hb dX1_hasEarlierWay_54 (by decide) ?_
        refine lv_icmp_eq (tgt := 72) hx hb dX1_hasEarlierWay_55 (by decide) (fun c55 => ?_) (fun c55 => ?_)
        · replace hf := xif_pos c55 hf
          exact h72 a1 a2 σ6 _ _ _ hw (lv_sub hl [1, 2, 3] rfl) hf
        · replace hf := xif_neg c55 hf
          refine lv_iload_n hx hb dX1_hasEarlierWay_58 rfl (lv_at hl 2 rfl) ?_
          refine lv_if_eq (tgt := 70) hx hb dX1_hasEarlierWay_59 (by decide) (fun c59 => ?_) (fun c59 => ?_)
          · replace hf := xif_pos c59 hf
            refine lv_iconst (v := 1) hx hb dX1_hasEarlierWay_70 (by decide) ?_
            exact x_zretc hx hb hr hlk hw (by decide) hf dX1_hasEarlierWay_71
          · replace hf := xif_neg c59 hf
            refine lv_iload_n hx hb dX1_hasEarlierWay_62 rfl (lv_at hl 0 rfl) ?_
            refine lv_aload_n hx hb dX1_hasEarlierWay_63 rfl (lv_at hl 1 rfl) ?_
            refine x_geti hx hb hw (cX38 hE) (own := RX1) (ref := RX1) (C := RX1) (T := TX1) (N := 9) hts hiX1 hown rfl 7 (by decide) hk33 (fun _ h9 => h9) rfl dX1_hasEarlierWay_64 ?_
            refine lv_icmp_ge (tgt := 72) hx hb dX1_hasEarlierWay_67 (by decide) (fun c67 => ?_) (fun c67 => ?_)
            · replace hf := xif_pos c67 hf
              exact h72 a1 a2 σ6 _ _ _ hw (lv_sub hl [1, 2, 3] rfl) hf
            · replace hf := xif_neg c67 hf
              refine lv_iconst (v := 1) hx hb dX1_hasEarlierWay_70 (by decide) ?_
              exact x_zretc hx hb hr hlk hw (by decide) hf dX1_hasEarlierWay_71
  have h18 : ∀ (n : Nat) (a1 : Int32) (a2 : Int32) (σ : xSt) (H : Heap) (locs : List Loc) (ls : Array Slot), xw E A s.heap s σ H locs → lv_has ls 4 [(0, .ref (E.a 38)), (1, .int a1), (2, .int a2)] → fX1_hasEarlierWay_c18 n a1 a2 σ = some (o1, o2) → W p l e rmX1_hasEarlierWay s m args below meth c H locs 0 0 (MQ below (xQi E A o1 o2) args s 0 0 A) (F0 m 18 ls []) := by
    intro n18
    induction n18 with
    | zero => intro a1 a2 σ H locs ls hw hl hf; exact nomatch hf
    | succ n18 ih18 =>
      intro a1 a2 σ H locs ls hw hl hf
      rw [fX1_hasEarlierWay_c18_s] at hf
      refine lv_iload_n hx hb dX1_hasEarlierWay_18 rfl (lv_at hl 2 rfl) ?_
      refine lv_aload_n hx hb dX1_hasEarlierWay_19 rfl (lv_at hl 0 rfl) ?_
      refine x_geti hx hb hw (cX38 hE) (own := RX1) (ref := RX1) (C := RX1) (T := TX1) (N := 9) hts hiX1 hown rfl 5 (by decide) hk45 (fun _ h9 => h9) rfl dX1_hasEarlierWay_20 ?_
      refine lv_icmp_ge (tgt := 39) hx hb dX1_hasEarlierWay_23 (by decide) (fun c23 => ?_) (fun c23 => ?_)
      · replace hf := xif_pos c23 hf
        refine lv_iconst (v := 0) hx hb dX1_hasEarlierWay_39 (by decide) ?_
        refine lv_istore_n (lv' := [(2, .int 0), (0, .ref (E.a 38)), (1, .int a1)]) hx hb dX1_hasEarlierWay_40 rfl hl (by decide) rfl (fun ls hl => ?_)
        exact h41 xFU a1 0 σ _ _ _ hw (lv_sub hl [1, 2, 0] rfl) hf
      · replace hf := xif_neg c23 hf
        refine lv_aload_n hx hb dX1_hasEarlierWay_26 rfl (lv_at hl 0 rfl) ?_
        refine x_getr hx hb hw (cX38 hE) (own := RX1) (ref := RX1) (C := RX1) (T := TX1) (N := 9) hts hiX1 hown rfl 8 (by decide) hk30 (fun _ h9 => h9) rfl dX1_hasEarlierWay_27 ?_
        refine lv_iload_n hx hb dX1_hasEarlierWay_30 rfl (lv_at hl 2 rfl) ?_
        refine lv_iload_n hx hb dX1_hasEarlierWay_31 rfl (lv_at hl 2 rfl) ?_
        obtain ⟨hin, hf⟩ := xs_f hf
        refine x_iast hx hb hw (cX45 hE) hin dX1_hasEarlierWay_32 (fun σ3 H locs ex hw => ?_)
        replace hf := hf σ3 ex
        clear ex hin
        obtain ⟨v4, ex⟩ : ∃ y : Int32, y = (a2 + 1) := ⟨_, rfl⟩
        replace hf := xl_f hf v4 ex
        refine lv_iinc (v := v4) (lv' := [(2, .int v4), (0, .ref (E.a 38)), (1, .int a1)]) hx hb dX1_hasEarlierWay_33 hl (k := 2) rfl (by rw [ex]; rfl) (by decide) rfl (fun ls hl => ?_)
        clear ex
        refine lv_goto (tgt := 18) hx hb dX1_hasEarlierWay_36 (by decide) ?_
        exact ih18 a1 v4 σ3 _ _ _ hw (lv_sub hl [1, 2, 0] rfl) hf
  refine lv_aload_n hx hb dX1_hasEarlierWay_0 rfl (lv_at hl 0 rfl) ?_
  refine x_geti hx hb hw (cX38 hE) (own := RX1) (ref := RX1) (C := RX1) (T := TX1) (N := 9) hts hiX1 hown rfl 5 (by decide) hk45 (fun _ h9 => h9) rfl dX1_hasEarlierWay_1 ?_
  refine lv_iconst (v := 5) hx hb dX1_hasEarlierWay_4 (by decide) ?_
  refine lv_icmp_le (tgt := 10) hx hb dX1_hasEarlierWay_5 (by decide) (fun c5 => ?_) (fun c5 => ?_)
  · replace hf := xif_pos c5 hf
    refine lv_aload_n hx hb dX1_hasEarlierWay_10 rfl (lv_at hl 0 rfl) ?_
    refine lv_iconst (v := 0) hx hb dX1_hasEarlierWay_11 (by decide) ?_
    obtain ⟨r1, σ2, hcl, hf⟩ := xc2_f hf
    refine x_calli (va_runV (As := [.int 0]) (rest := []) ⟨hx, hb, hml, hown, hts⟩ (mX1_findWay hE 0 σ r1 σ2 hcl s.heap.size) (cwV 1 hts gX1_hasEarlierWay_X1_findWay rfl rfl rfl (by decide +kernel) ⟨Nat.le_of_ble_eq_true rfl, Nat.le_of_ble_eq_true rfl⟩) (x_preV _ hw hA hG (cX38 hE) rfl) rfl rfl hl.1 rfl (lv_room (Nat.le_of_ble_eq_true rfl)) dX1_hasEarlierWay_12 ⟨Nat.le_of_ble_eq_true rfl, Nat.le_of_ble_eq_true rfl⟩) hw hA (fun H locs hw => ?_)
    clear hcl
    refine lv_istore_n (lv' := [(1, .int r1), (0, .ref (E.a 38))]) hx hb dX1_hasEarlierWay_15 rfl hl (by decide) rfl (fun ls hl => ?_)
    refine lv_iconst (v := 0) hx hb dX1_hasEarlierWay_16 (by decide) ?_
    refine lv_istore_n (lv' := [(2, .int 0), (1, .int r1), (0, .ref (E.a 38))]) hx hb dX1_hasEarlierWay_17 rfl hl (by decide) rfl (fun ls hl => ?_)
    exact h18 xFU r1 0 σ2 _ _ _ hw (lv_sub hl [2, 1, 0] rfl) hf
  · replace hf := xif_neg c5 hf
    refine lv_iconst (v := 0) hx hb dX1_hasEarlierWay_8 (by decide) ?_
    exact x_zretc hx hb hr hlk hw (by decide) hf dX1_hasEarlierWay_9

def fX1_save (p1 : Int32) (σ : xSt) : Option (Int32 × xSt) := (xs σ 1 1560 p1 (σ 38 5) fun σ1 => some ((p1 + 1), σ1))
abbrev rmX1_save : Room := { frames := 0, cells := 0, slots := 0, locals := 0 }
set_option maxRecDepth 100000 in
set_option maxHeartbeats 4000000 in
theorem mX1_save {l : Launch} {E : xE} (hE : E.sh = shX) (p1 : Int32) (σ : xSt) (o1 : Int32) (o2 : xSt) (hf : fX1_save p1 σ = some (o1, o2)) : xMi l yX1_save wsX1_save rmX1_save E [.ref (E.a 38), .ref (E.a 1), .int p1] σ o1 o2 := by
  unfold fX1_save at hf
  refine xMi_of (cc := cX1_save) (maxL := 3) (ret := (some .int)) (by decide) rfl (Nat.le_of_ble_eq_true rfl) ?_
  intro p e s m args below meth c A ls ⟨hx, hb, hr, hml, hown, hts, hlk⟩ hA hG hw hl
  have hown : s.vm.findClass RX1 = some m.cls := hown
  have hl : lv_has ls 3 [(0, .ref (E.a 38)), (1, .ref (E.a 1)), (2, .int p1)] := hl
  have hk45 := hts (.fieldLink RX1 45 "OvenRound$Cart" "count" "I") (by decide +kernel)
  have hiX1 : ∀ w ∈ wsX10, w ∈ wsX1_save := by decide +kernel
  refine lv_aload_n hx hb dX1_save_0 rfl (lv_at hl 1 rfl) ?_
  refine lv_iload_n hx hb dX1_save_1 rfl (lv_at hl 2 rfl) ?_
  refine lv_aload_n hx hb dX1_save_2 rfl (lv_at hl 0 rfl) ?_
  refine x_geti hx hb hw (cX38 hE) (own := RX1) (ref := RX1) (C := RX1) (T := TX1) (N := 9) hts hiX1 hown rfl 5 (by decide) hk45 (fun _ h9 => h9) rfl dX1_save_3 ?_
  obtain ⟨hin, hf⟩ := xs_f hf
  refine x_iast hx hb hw (cX1 hE) hin dX1_save_6 (fun σ1 H locs ex hw => ?_)
  replace hf := hf σ1 ex
  clear ex hin
  refine lv_iload_n hx hb dX1_save_7 rfl (lv_at hl 2 rfl) ?_
  refine lv_iconst (v := 1) hx hb dX1_save_8 (by decide) ?_
  refine lv_iadd hx hb dX1_save_9 ?_
  exact x_iret hx hb hr hlk hw hf dX1_save_10

def fX1_load (p1 : Int32) (σ : xSt) : Option (Int32 × xSt) := (xr σ 1 1560 p1 fun v1 => (xp σ 38 5 v1 fun σ2 => some ((p1 + 1), σ2)))
abbrev rmX1_load : Room := { frames := 0, cells := 0, slots := 0, locals := 0 }
set_option maxRecDepth 100000 in
set_option maxHeartbeats 4000000 in
theorem mX1_load {l : Launch} {E : xE} (hE : E.sh = shX) (p1 : Int32) (σ : xSt) (o1 : Int32) (o2 : xSt) (hf : fX1_load p1 σ = some (o1, o2)) : xMi l yX1_load wsX1_load rmX1_load E [.ref (E.a 38), .ref (E.a 1), .int p1] σ o1 o2 := by
  unfold fX1_load at hf
  refine xMi_of (cc := cX1_load) (maxL := 3) (ret := (some .int)) (by decide) rfl (Nat.le_of_ble_eq_true rfl) ?_
  intro p e s m args below meth c A ls ⟨hx, hb, hr, hml, hown, hts, hlk⟩ hA hG hw hl
  have hown : s.vm.findClass RX1 = some m.cls := hown
  have hl : lv_has ls 3 [(0, .ref (E.a 38)), (1, .ref (E.a 1)), (2, .int p1)] := hl
  have hk45 := hts (.fieldLink RX1 45 "OvenRound$Cart" "count" "I") (by decide +kernel)
  have hiX1 : ∀ w ∈ wsX10, w ∈ wsX1_load := by decide +kernel
  refine lv_aload_n hx hb dX1_load_0 rfl (lv_at hl 0 rfl) ?_
  refine lv_aload_n hx hb dX1_load_1 rfl (lv_at hl 1 rfl) ?_
  refine lv_iload_n hx hb dX1_load_2 rfl (lv_at hl 2 rfl) ?_
  obtain ⟨hin, hf⟩ := xr_f hf
  refine x_iald hx hb hw (cX1 hE) hin dX1_load_3 ?_
  refine lv_topi (fun v1 ex => ?_)
  replace hf := hf v1 ex
  clear ex hin
  refine x_puti hx hb hw (cX38 hE) (own := RX1) (ref := RX1) (C := RX1) (T := TX1) (N := 9) hts hiX1 tyX1 tyX1_ok nmX1 hown rfl 5 (by decide) hk45 (fun _ h9 => h9) rfl (by decide +kernel) rfl dX1_load_4 (fun σ2 H locs ex hw => ?_)
  replace hf := xp_f hf σ2 ex
  clear ex
  refine lv_iload_n hx hb dX1_load_7 rfl (lv_at hl 2 rfl) ?_
  refine lv_iconst (v := 1) hx hb dX1_load_8 (by decide) ?_
  refine lv_iadd hx hb dX1_load_9 ?_
  exact x_iret hx hb hr hlk hw hf dX1_load_10

def fX2_add (p0 : Int32) (p1 : Int32) (p2 : Int32) (σ : xSt) : Option (Int32 × xSt) := (xl (σ 12 7) fun v1 => (xs σ 13 20 v1 p0 fun σ2 => (xs σ2 14 20 v1 p1 fun σ3 => (xs σ3 15 20 v1 p2 fun σ4 => (xs σ4 16 20 v1 0 fun σ5 => (xs σ5 17 20 v1 0 fun σ6 => (xs σ6 18 20 v1 (-1) fun σ7 => (xs σ7 19 20 v1 (-1) fun σ8 => (xp σ8 12 7 ((σ8 12 7) + 1) fun σ9 => some (v1, σ9))))))))))
abbrev rmX2_add : Room := { frames := 0, cells := 0, slots := 0, locals := 0 }
set_option maxRecDepth 100000 in
set_option maxHeartbeats 4000000 in
theorem mX2_add {l : Launch} {E : xE} (hE : E.sh = shX) (p0 : Int32) (p1 : Int32) (p2 : Int32) (σ : xSt) (o1 : Int32) (o2 : xSt) (hf : fX2_add p0 p1 p2 σ = some (o1, o2)) : xMi l yX2_add wsX2_add rmX2_add E [.ref (E.a 12), .int p0, .int p1, .int p2] σ o1 o2 := by
  unfold fX2_add at hf
  refine xMi_of (cc := cX2_add) (maxL := 5) (ret := (some .int)) (by decide) rfl (Nat.le_of_ble_eq_true rfl) ?_
  intro p e s m args below meth c A ls ⟨hx, hb, hr, hml, hown, hts, hlk⟩ hA hG hw hl
  have hown : s.vm.findClass RX2 = some m.cls := hown
  have hl : lv_has ls 5 [(0, .ref (E.a 12)), (1, .int p0), (2, .int p1), (3, .int p2)] := hl
  have hk33 := hts (.fieldLink RX2 33 "OvenRound$Doughs" "count" "I") (by decide +kernel)
  have hiX2 : ∀ w ∈ wsX20, w ∈ wsX2_add := by decide +kernel
  have hk9 := hts (.fieldLink RX2 9 "OvenRound$Doughs" "recipe" "[I") (by decide +kernel)
  have hk15 := hts (.fieldLink RX2 15 "OvenRound$Doughs" "pieces" "[I") (by decide +kernel)
  have hk18 := hts (.fieldLink RX2 18 "OvenRound$Doughs" "grams" "[I") (by decide +kernel)
  have hk21 := hts (.fieldLink RX2 21 "OvenRound$Doughs" "points" "[I") (by decide +kernel)
  have hk24 := hts (.fieldLink RX2 24 "OvenRound$Doughs" "state" "[I") (by decide +kernel)
  have hk27 := hts (.fieldLink RX2 27 "OvenRound$Doughs" "shapedAt" "[I") (by decide +kernel)
  have hk30 := hts (.fieldLink RX2 30 "OvenRound$Doughs" "ovenAt" "[I") (by decide +kernel)
  refine lv_aload_n hx hb dX2_add_0 rfl (lv_at hl 0 rfl) ?_
  refine x_geti hx hb hw (cX12 hE) (own := RX2) (ref := RX2) (C := RX2) (T := TX2) (N := 8) hts hiX2 hown rfl 7 (by decide) hk33 (fun _ h9 => h9) rfl dX2_add_1 ?_
  refine lv_topi (fun v1 ex => ?_)
  replace hf := xl_f hf v1 ex
  clear ex
  refine lv_istore (lv' := [(4, .int v1), (0, .ref (E.a 12)), (1, .int p0), (2, .int p1), (3, .int p2)]) hx hb dX2_add_4 hl (by decide) rfl (fun ls hl => ?_)
  refine lv_aload_n hx hb dX2_add_6 rfl (lv_at hl 1 rfl) ?_
  refine x_getr hx hb hw (cX12 hE) (own := RX2) (ref := RX2) (C := RX2) (T := TX2) (N := 8) hts hiX2 hown rfl 0 (by decide) hk9 (fun _ h9 => h9) rfl dX2_add_7 ?_
  refine lv_iload hx hb dX2_add_10 (lv_at hl 0 rfl) ?_
  refine lv_iload_n hx hb dX2_add_12 rfl (lv_at hl 2 rfl) ?_
  obtain ⟨hin, hf⟩ := xs_f hf
  refine x_iast hx hb hw (cX13 hE) hin dX2_add_13 (fun σ2 H locs ex hw => ?_)
  replace hf := hf σ2 ex
  clear ex hin
  refine lv_aload_n hx hb dX2_add_14 rfl (lv_at hl 1 rfl) ?_
  refine x_getr hx hb hw (cX12 hE) (own := RX2) (ref := RX2) (C := RX2) (T := TX2) (N := 8) hts hiX2 hown rfl 1 (by decide) hk15 (fun _ h9 => h9) rfl dX2_add_15 ?_
  refine lv_iload hx hb dX2_add_18 (lv_at hl 0 rfl) ?_
  refine lv_iload_n hx hb dX2_add_20 rfl (lv_at hl 3 rfl) ?_
  obtain ⟨hin, hf⟩ := xs_f hf
  refine x_iast hx hb hw (cX14 hE) hin dX2_add_21 (fun σ3 H locs ex hw => ?_)
  replace hf := hf σ3 ex
  clear ex hin
  refine lv_aload_n hx hb dX2_add_22 rfl (lv_at hl 1 rfl) ?_
  refine x_getr hx hb hw (cX12 hE) (own := RX2) (ref := RX2) (C := RX2) (T := TX2) (N := 8) hts hiX2 hown rfl 2 (by decide) hk18 (fun _ h9 => h9) rfl dX2_add_23 ?_
  refine lv_iload hx hb dX2_add_26 (lv_at hl 0 rfl) ?_
  refine lv_iload_n hx hb dX2_add_28 rfl (lv_at hl 4 rfl) ?_
  obtain ⟨hin, hf⟩ := xs_f hf
  refine x_iast hx hb hw (cX15 hE) hin dX2_add_29 (fun σ4 H locs ex hw => ?_)
  replace hf := hf σ4 ex
  clear ex hin
  refine lv_aload_n hx hb dX2_add_30 rfl (lv_at hl 1 rfl) ?_
  refine x_getr hx hb hw (cX12 hE) (own := RX2) (ref := RX2) (C := RX2) (T := TX2) (N := 8) hts hiX2 hown rfl 3 (by decide) hk21 (fun _ h9 => h9) rfl dX2_add_31 ?_
  refine lv_iload hx hb dX2_add_34 (lv_at hl 0 rfl) ?_
  refine lv_iconst (v := 0) hx hb dX2_add_36 (by decide) ?_
  obtain ⟨hin, hf⟩ := xs_f hf
  refine x_iast hx hb hw (cX16 hE) hin dX2_add_37 (fun σ5 H locs ex hw => ?_)
  replace hf := hf σ5 ex
  clear ex hin
  refine lv_aload_n hx hb dX2_add_38 rfl (lv_at hl 1 rfl) ?_
  refine x_getr hx hb hw (cX12 hE) (own := RX2) (ref := RX2) (C := RX2) (T := TX2) (N := 8) hts hiX2 hown rfl 4 (by decide) hk24 (fun _ h9 => h9) rfl dX2_add_39 ?_
  refine lv_iload hx hb dX2_add_42 (lv_at hl 0 rfl) ?_
  refine lv_iconst (v := 0) hx hb dX2_add_44 (by decide) ?_
  obtain ⟨hin, hf⟩ := xs_f hf
  refine x_iast hx hb hw (cX17 hE) hin dX2_add_45 (fun σ6 H locs ex hw => ?_)
  replace hf := hf σ6 ex
  clear ex hin
  refine lv_aload_n hx hb dX2_add_46 rfl (lv_at hl 1 rfl) ?_
  refine x_getr hx hb hw (cX12 hE) (own := RX2) (ref := RX2) (C := RX2) (T := TX2) (N := 8) hts hiX2 hown rfl 5 (by decide) hk27 (fun _ h9 => h9) rfl dX2_add_47 ?_
  refine lv_iload hx hb dX2_add_50 (lv_at hl 0 rfl) ?_
  refine lv_iconst (v := (-1)) hx hb dX2_add_52 (by decide) ?_
  obtain ⟨hin, hf⟩ := xs_f hf
  refine x_iast hx hb hw (cX18 hE) hin dX2_add_53 (fun σ7 H locs ex hw => ?_)
  replace hf := hf σ7 ex
  clear ex hin
  refine lv_aload_n hx hb dX2_add_54 rfl (lv_at hl 1 rfl) ?_
  refine x_getr hx hb hw (cX12 hE) (own := RX2) (ref := RX2) (C := RX2) (T := TX2) (N := 8) hts hiX2 hown rfl 6 (by decide) hk30 (fun _ h9 => h9) rfl dX2_add_55 ?_
  refine lv_iload hx hb dX2_add_58 (lv_at hl 0 rfl) ?_
  refine lv_iconst (v := (-1)) hx hb dX2_add_60 (by decide) ?_
  obtain ⟨hin, hf⟩ := xs_f hf
  refine x_iast hx hb hw (cX19 hE) hin dX2_add_61 (fun σ8 H locs ex hw => ?_)
  replace hf := hf σ8 ex
  clear ex hin
  refine lv_aload_n hx hb dX2_add_62 rfl (lv_at hl 1 rfl) ?_
  refine lv_dup hx hb dX2_add_63 rfl ?_
  refine x_geti hx hb hw (cX12 hE) (own := RX2) (ref := RX2) (C := RX2) (T := TX2) (N := 8) hts hiX2 hown rfl 7 (by decide) hk33 (fun _ h9 => h9) rfl dX2_add_64 ?_
  refine lv_iconst (v := 1) hx hb dX2_add_67 (by decide) ?_
  refine lv_iadd hx hb dX2_add_68 ?_
  refine x_puti hx hb hw (cX12 hE) (own := RX2) (ref := RX2) (C := RX2) (T := TX2) (N := 8) hts hiX2 tyX2 tyX2_ok nmX2 hown rfl 7 (by decide) hk33 (fun _ h9 => h9) rfl (by decide +kernel) rfl dX2_add_69 (fun σ9 H locs ex hw => ?_)
  replace hf := xp_f hf σ9 ex
  clear ex
  refine lv_iload hx hb dX2_add_72 (lv_at hl 0 rfl) ?_
  exact x_iret hx hb hr hlk hw hf dX2_add_74

def fX2_rise_c2 : Nat → Int32 → Int32 → xSt → Option xSt
  | 0 => fun _ _ _ => none
  | n + 1 => fun a1 a2 σ => (if (σ 12 7) ≤ a2 then some σ else (xr σ 17 20 a2 fun v1 => (if v1 = 0 then (xr σ 16 20 a2 fun v3 => (xs σ 16 20 a2 (v3 + a1) fun σ4 => (xl (a2 + 1) fun v5 => fX2_rise_c2 n a1 v5 σ4))) else (xl (a2 + 1) fun v2 => fX2_rise_c2 n a1 v2 σ))))
theorem fX2_rise_c2_s (n : Nat) (a1 : Int32) (a2 : Int32) (σ : xSt) : fX2_rise_c2 (n + 1) a1 a2 σ = ((if (σ 12 7) ≤ a2 then some σ else (xr σ 17 20 a2 fun v1 => (if v1 = 0 then (xr σ 16 20 a2 fun v3 => (xs σ 16 20 a2 (v3 + a1) fun σ4 => (xl (a2 + 1) fun v5 => fX2_rise_c2 n a1 v5 σ4))) else (xl (a2 + 1) fun v2 => fX2_rise_c2 n a1 v2 σ)))) : Option xSt) := rfl
def fX2_rise (p0 : Int32) (σ : xSt) : Option xSt := fX2_rise_c2 xFU p0 0 σ
abbrev rmX2_rise : Room := { frames := 0, cells := 0, slots := 0, locals := 0 }
set_option maxRecDepth 100000 in
set_option maxHeartbeats 4000000 in
theorem mX2_rise {l : Launch} {E : xE} (hE : E.sh = shX) (p0 : Int32) (σ : xSt) (o1 : xSt) (hf : fX2_rise p0 σ = some o1) : xMv l yX2_rise wsX2_rise rmX2_rise E [.ref (E.a 12), .int p0] σ o1 := by
  unfold fX2_rise at hf
  refine xMv_of (cc := cX2_rise) (maxL := 3) (ret := none) (by decide) rfl (Nat.le_of_ble_eq_true rfl) ?_
  intro p e s m args below meth c A ls ⟨hx, hb, hr, hml, hown, hts, hlk⟩ hA hG hw hl
  have hown : s.vm.findClass RX2 = some m.cls := hown
  have hl : lv_has ls 3 [(0, .ref (E.a 12)), (1, .int p0)] := hl
  have hk33 := hts (.fieldLink RX2 33 "OvenRound$Doughs" "count" "I") (by decide +kernel)
  have hiX2 : ∀ w ∈ wsX20, w ∈ wsX2_rise := by decide +kernel
  have hk24 := hts (.fieldLink RX2 24 "OvenRound$Doughs" "state" "[I") (by decide +kernel)
  have hk21 := hts (.fieldLink RX2 21 "OvenRound$Doughs" "points" "[I") (by decide +kernel)
  have h2 : ∀ (n : Nat) (a1 : Int32) (a2 : Int32) (σ : xSt) (H : Heap) (locs : List Loc) (ls : Array Slot), xw E A s.heap s σ H locs → lv_has ls 3 [(0, .ref (E.a 12)), (1, .int a1), (2, .int a2)] → fX2_rise_c2 n a1 a2 σ = some o1 → W p l e rmX2_rise s m args below meth c H locs 0 0 (MQ below (xQv E A o1) args s 0 0 A) (F0 m 2 ls []) := by
    intro n2
    induction n2 with
    | zero => intro a1 a2 σ H locs ls hw hl hf; exact nomatch hf
    | succ n2 ih2 =>
      intro a1 a2 σ H locs ls hw hl hf
      rw [fX2_rise_c2_s] at hf
      refine lv_iload_n hx hb dX2_rise_2 rfl (lv_at hl 2 rfl) ?_
      refine lv_aload_n hx hb dX2_rise_3 rfl (lv_at hl 0 rfl) ?_
      refine x_geti hx hb hw (cX12 hE) (own := RX2) (ref := RX2) (C := RX2) (T := TX2) (N := 8) hts hiX2 hown rfl 7 (by decide) hk33 (fun _ h9 => h9) rfl dX2_rise_4 ?_
      refine lv_icmp_ge (tgt := 35) hx hb dX2_rise_7 (by decide) (fun c7 => ?_) (fun c7 => ?_)
      · replace hf := xif_pos c7 hf
        exact x_vret hx hb hr hlk hw hf dX2_rise_35
      · replace hf := xif_neg c7 hf
        refine lv_aload_n hx hb dX2_rise_10 rfl (lv_at hl 0 rfl) ?_
        refine x_getr hx hb hw (cX12 hE) (own := RX2) (ref := RX2) (C := RX2) (T := TX2) (N := 8) hts hiX2 hown rfl 4 (by decide) hk24 (fun _ h9 => h9) rfl dX2_rise_11 ?_
        refine lv_iload_n hx hb dX2_rise_14 rfl (lv_at hl 2 rfl) ?_
        obtain ⟨hin, hf⟩ := xr_f hf
        refine x_iald hx hb hw (cX17 hE) hin dX2_rise_15 ?_
        refine lv_topi (fun v1 ex => ?_)
        replace hf := hf v1 ex
        clear ex hin
        refine lv_if_ne (tgt := 29) hx hb dX2_rise_16 (by decide) (fun c16 => ?_) (fun c16 => ?_)
        · replace hf := xif_neg c16 hf
          obtain ⟨v2, ex⟩ : ∃ y : Int32, y = (a2 + 1) := ⟨_, rfl⟩
          replace hf := xl_f hf v2 ex
          refine lv_iinc (v := v2) (lv' := [(2, .int v2), (0, .ref (E.a 12)), (1, .int a1)]) hx hb dX2_rise_29 hl (k := 2) rfl (by rw [ex]; rfl) (by decide) rfl (fun ls hl => ?_)
          clear ex
          refine lv_goto (tgt := 2) hx hb dX2_rise_32 (by decide) ?_
          exact ih2 a1 v2 σ _ _ _ hw (lv_sub hl [1, 2, 0] rfl) hf
        · replace hf := xif_pos c16 hf
          refine lv_aload_n hx hb dX2_rise_19 rfl (lv_at hl 0 rfl) ?_
          refine x_getr hx hb hw (cX12 hE) (own := RX2) (ref := RX2) (C := RX2) (T := TX2) (N := 8) hts hiX2 hown rfl 3 (by decide) hk21 (fun _ h9 => h9) rfl dX2_rise_20 ?_
          refine lv_iload_n hx hb dX2_rise_23 rfl (lv_at hl 2 rfl) ?_
          refine lv_dup2_11 hx hb dX2_rise_24 rfl rfl ?_
          obtain ⟨hin, hf⟩ := xr_f hf
          refine x_iald hx hb hw (cX16 hE) hin dX2_rise_25 ?_
          refine lv_topi (fun v3 ex => ?_)
          replace hf := hf v3 ex
          clear ex hin
          refine lv_iload_n hx hb dX2_rise_26 rfl (lv_at hl 1 rfl) ?_
          refine lv_iadd hx hb dX2_rise_27 ?_
          obtain ⟨hin, hf⟩ := xs_f hf
          refine x_iast hx hb hw (cX16 hE) hin dX2_rise_28 (fun σ4 H locs ex hw => ?_)
          replace hf := hf σ4 ex
          clear ex hin
          obtain ⟨v5, ex⟩ : ∃ y : Int32, y = (a2 + 1) := ⟨_, rfl⟩
          replace hf := xl_f hf v5 ex
          refine lv_iinc (v := v5) (lv' := [(2, .int v5), (0, .ref (E.a 12)), (1, .int a1)]) hx hb dX2_rise_29 hl (k := 2) rfl (by rw [ex]; rfl) (by decide) rfl (fun ls hl => ?_)
          clear ex
          refine lv_goto (tgt := 2) hx hb dX2_rise_32 (by decide) ?_
          exact ih2 a1 v5 σ4 _ _ _ hw (lv_sub hl [1, 2, 0] rfl) hf
  refine lv_iconst (v := 0) hx hb dX2_rise_0 (by decide) ?_
  refine lv_istore_n (lv' := [(2, .int 0), (0, .ref (E.a 12)), (1, .int p0)]) hx hb dX2_rise_1 rfl hl (by decide) rfl (fun ls hl => ?_)
  exact h2 xFU p0 0 σ _ _ _ hw (lv_sub hl [1, 2, 0] rfl) hf

def fX2_wentIntoOvenAt_c4 : Nat → Int32 → Int32 → Int32 → xSt → Option (Int32 × xSt)
  | 0 => fun _ _ _ _ => none
  | n + 1 => fun a1 a2 a3 σ => (if (σ 12 7) ≤ a3 then some (a2, σ) else (xr σ 19 20 a3 fun v1 => (if v1 = a1 then (xl (a2 + 1) fun v3 => (xl (a3 + 1) fun v4 => fX2_wentIntoOvenAt_c4 n a1 v3 v4 σ)) else (xl (a3 + 1) fun v2 => fX2_wentIntoOvenAt_c4 n a1 a2 v2 σ))))
theorem fX2_wentIntoOvenAt_c4_s (n : Nat) (a1 : Int32) (a2 : Int32) (a3 : Int32) (σ : xSt) : fX2_wentIntoOvenAt_c4 (n + 1) a1 a2 a3 σ = ((if (σ 12 7) ≤ a3 then some (a2, σ) else (xr σ 19 20 a3 fun v1 => (if v1 = a1 then (xl (a2 + 1) fun v3 => (xl (a3 + 1) fun v4 => fX2_wentIntoOvenAt_c4 n a1 v3 v4 σ)) else (xl (a3 + 1) fun v2 => fX2_wentIntoOvenAt_c4 n a1 a2 v2 σ)))) : Option (Int32 × xSt)) := rfl
def fX2_wentIntoOvenAt (p0 : Int32) (σ : xSt) : Option (Int32 × xSt) := fX2_wentIntoOvenAt_c4 xFU p0 0 0 σ
abbrev rmX2_wentIntoOvenAt : Room := { frames := 0, cells := 0, slots := 0, locals := 0 }
set_option maxRecDepth 100000 in
set_option maxHeartbeats 4000000 in
theorem mX2_wentIntoOvenAt {l : Launch} {E : xE} (hE : E.sh = shX) (p0 : Int32) (σ : xSt) (o1 : Int32) (o2 : xSt) (hf : fX2_wentIntoOvenAt p0 σ = some (o1, o2)) : xMi l yX2_wentIntoOvenAt wsX2_wentIntoOvenAt rmX2_wentIntoOvenAt E [.ref (E.a 12), .int p0] σ o1 o2 := by
  unfold fX2_wentIntoOvenAt at hf
  refine xMi_of (cc := cX2_wentIntoOvenAt) (maxL := 4) (ret := (some .int)) (by decide) rfl (Nat.le_of_ble_eq_true rfl) ?_
  intro p e s m args below meth c A ls ⟨hx, hb, hr, hml, hown, hts, hlk⟩ hA hG hw hl
  have hown : s.vm.findClass RX2 = some m.cls := hown
  have hl : lv_has ls 4 [(0, .ref (E.a 12)), (1, .int p0)] := hl
  have hk33 := hts (.fieldLink RX2 33 "OvenRound$Doughs" "count" "I") (by decide +kernel)
  have hiX2 : ∀ w ∈ wsX20, w ∈ wsX2_wentIntoOvenAt := by decide +kernel
  have hk30 := hts (.fieldLink RX2 30 "OvenRound$Doughs" "ovenAt" "[I") (by decide +kernel)
  have h4 : ∀ (n : Nat) (a1 : Int32) (a2 : Int32) (a3 : Int32) (σ : xSt) (H : Heap) (locs : List Loc) (ls : Array Slot), xw E A s.heap s σ H locs → lv_has ls 4 [(0, .ref (E.a 12)), (1, .int a1), (2, .int a2), (3, .int a3)] → fX2_wentIntoOvenAt_c4 n a1 a2 a3 σ = some (o1, o2) → W p l e rmX2_wentIntoOvenAt s m args below meth c H locs 0 0 (MQ below (xQi E A o1 o2) args s 0 0 A) (F0 m 4 ls []) := by
    intro n4
    induction n4 with
    | zero => intro a1 a2 a3 σ H locs ls hw hl hf; exact nomatch hf
    | succ n4 ih4 =>
      intro a1 a2 a3 σ H locs ls hw hl hf
      rw [fX2_wentIntoOvenAt_c4_s] at hf
      refine lv_iload_n hx hb dX2_wentIntoOvenAt_4 rfl (lv_at hl 3 rfl) ?_
      refine lv_aload_n hx hb dX2_wentIntoOvenAt_5 rfl (lv_at hl 0 rfl) ?_
      refine x_geti hx hb hw (cX12 hE) (own := RX2) (ref := RX2) (C := RX2) (T := TX2) (N := 8) hts hiX2 hown rfl 7 (by decide) hk33 (fun _ h9 => h9) rfl dX2_wentIntoOvenAt_6 ?_
      refine lv_icmp_ge (tgt := 31) hx hb dX2_wentIntoOvenAt_9 (by decide) (fun c9 => ?_) (fun c9 => ?_)
      · replace hf := xif_pos c9 hf
        refine lv_iload_n hx hb dX2_wentIntoOvenAt_31 rfl (lv_at hl 2 rfl) ?_
        exact x_iret hx hb hr hlk hw hf dX2_wentIntoOvenAt_32
      · replace hf := xif_neg c9 hf
        refine lv_aload_n hx hb dX2_wentIntoOvenAt_12 rfl (lv_at hl 0 rfl) ?_
        refine x_getr hx hb hw (cX12 hE) (own := RX2) (ref := RX2) (C := RX2) (T := TX2) (N := 8) hts hiX2 hown rfl 6 (by decide) hk30 (fun _ h9 => h9) rfl dX2_wentIntoOvenAt_13 ?_
        refine lv_iload_n hx hb dX2_wentIntoOvenAt_16 rfl (lv_at hl 3 rfl) ?_
        obtain ⟨hin, hf⟩ := xr_f hf
        refine x_iald hx hb hw (cX19 hE) hin dX2_wentIntoOvenAt_17 ?_
        refine lv_topi (fun v1 ex => ?_)
        replace hf := hf v1 ex
        clear ex hin
        refine lv_iload_n hx hb dX2_wentIntoOvenAt_18 rfl (lv_at hl 1 rfl) ?_
        refine lv_icmp_ne (tgt := 25) hx hb dX2_wentIntoOvenAt_19 (by decide) (fun c19 => ?_) (fun c19 => ?_)
        · replace hf := xif_neg c19 hf
          obtain ⟨v2, ex⟩ : ∃ y : Int32, y = (a3 + 1) := ⟨_, rfl⟩
          replace hf := xl_f hf v2 ex
          refine lv_iinc (v := v2) (lv' := [(3, .int v2), (0, .ref (E.a 12)), (1, .int a1), (2, .int a2)]) hx hb dX2_wentIntoOvenAt_25 hl (k := 3) rfl (by rw [ex]; rfl) (by decide) rfl (fun ls hl => ?_)
          clear ex
          refine lv_goto (tgt := 4) hx hb dX2_wentIntoOvenAt_28 (by decide) ?_
          exact ih4 a1 a2 v2 σ _ _ _ hw (lv_sub hl [1, 2, 3, 0] rfl) hf
        · replace hf := xif_pos c19 hf
          obtain ⟨v3, ex⟩ : ∃ y : Int32, y = (a2 + 1) := ⟨_, rfl⟩
          replace hf := xl_f hf v3 ex
          refine lv_iinc (v := v3) (lv' := [(2, .int v3), (0, .ref (E.a 12)), (1, .int a1), (3, .int a3)]) hx hb dX2_wentIntoOvenAt_22 hl (k := 2) rfl (by rw [ex]; rfl) (by decide) rfl (fun ls hl => ?_)
          clear ex
          obtain ⟨v4, ex⟩ : ∃ y : Int32, y = (a3 + 1) := ⟨_, rfl⟩
          replace hf := xl_f hf v4 ex
          refine lv_iinc (v := v4) (lv' := [(3, .int v4), (2, .int v3), (0, .ref (E.a 12)), (1, .int a1)]) hx hb dX2_wentIntoOvenAt_25 hl (k := 3) rfl (by rw [ex]; rfl) (by decide) rfl (fun ls hl => ?_)
          clear ex
          refine lv_goto (tgt := 4) hx hb dX2_wentIntoOvenAt_28 (by decide) ?_
          exact ih4 a1 v3 v4 σ _ _ _ hw (lv_sub hl [2, 3, 1, 0] rfl) hf
  refine lv_iconst (v := 0) hx hb dX2_wentIntoOvenAt_0 (by decide) ?_
  refine lv_istore_n (lv' := [(2, .int 0), (0, .ref (E.a 12)), (1, .int p0)]) hx hb dX2_wentIntoOvenAt_1 rfl hl (by decide) rfl (fun ls hl => ?_)
  refine lv_iconst (v := 0) hx hb dX2_wentIntoOvenAt_2 (by decide) ?_
  refine lv_istore_n (lv' := [(3, .int 0), (2, .int 0), (0, .ref (E.a 12)), (1, .int p0)]) hx hb dX2_wentIntoOvenAt_3 rfl hl (by decide) rfl (fun ls hl => ?_)
  exact h4 xFU p0 0 0 σ _ _ _ hw (lv_sub hl [2, 3, 1, 0] rfl) hf

def fX2_gramsIn_c4 : Nat → Int32 → Int32 → Int32 → xSt → Option (Int32 × xSt)
  | 0 => fun _ _ _ _ => none
  | n + 1 => fun a1 a2 a3 σ => (if (σ 12 7) ≤ a3 then some (a2, σ) else (xr σ 17 20 a3 fun v1 => (if v1 = a1 then (xr σ 15 20 a3 fun v3 => (xl (a2 + v3) fun v4 => (xl (a3 + 1) fun v5 => fX2_gramsIn_c4 n a1 v4 v5 σ))) else (xl (a3 + 1) fun v2 => fX2_gramsIn_c4 n a1 a2 v2 σ))))
theorem fX2_gramsIn_c4_s (n : Nat) (a1 : Int32) (a2 : Int32) (a3 : Int32) (σ : xSt) : fX2_gramsIn_c4 (n + 1) a1 a2 a3 σ = ((if (σ 12 7) ≤ a3 then some (a2, σ) else (xr σ 17 20 a3 fun v1 => (if v1 = a1 then (xr σ 15 20 a3 fun v3 => (xl (a2 + v3) fun v4 => (xl (a3 + 1) fun v5 => fX2_gramsIn_c4 n a1 v4 v5 σ))) else (xl (a3 + 1) fun v2 => fX2_gramsIn_c4 n a1 a2 v2 σ)))) : Option (Int32 × xSt)) := rfl
def fX2_gramsIn (p0 : Int32) (σ : xSt) : Option (Int32 × xSt) := fX2_gramsIn_c4 xFU p0 0 0 σ
abbrev rmX2_gramsIn : Room := { frames := 0, cells := 0, slots := 0, locals := 0 }
set_option maxRecDepth 100000 in
set_option maxHeartbeats 4000000 in
theorem mX2_gramsIn {l : Launch} {E : xE} (hE : E.sh = shX) (p0 : Int32) (σ : xSt) (o1 : Int32) (o2 : xSt) (hf : fX2_gramsIn p0 σ = some (o1, o2)) : xMi l yX2_gramsIn wsX2_gramsIn rmX2_gramsIn E [.ref (E.a 12), .int p0] σ o1 o2 := by
  unfold fX2_gramsIn at hf
  refine xMi_of (cc := cX2_gramsIn) (maxL := 4) (ret := (some .int)) (by decide) rfl (Nat.le_of_ble_eq_true rfl) ?_
  intro p e s m args below meth c A ls ⟨hx, hb, hr, hml, hown, hts, hlk⟩ hA hG hw hl
  have hown : s.vm.findClass RX2 = some m.cls := hown
  have hl : lv_has ls 4 [(0, .ref (E.a 12)), (1, .int p0)] := hl
  have hk33 := hts (.fieldLink RX2 33 "OvenRound$Doughs" "count" "I") (by decide +kernel)
  have hiX2 : ∀ w ∈ wsX20, w ∈ wsX2_gramsIn := by decide +kernel
  have hk24 := hts (.fieldLink RX2 24 "OvenRound$Doughs" "state" "[I") (by decide +kernel)
  have hk18 := hts (.fieldLink RX2 18 "OvenRound$Doughs" "grams" "[I") (by decide +kernel)
  have h4 : ∀ (n : Nat) (a1 : Int32) (a2 : Int32) (a3 : Int32) (σ : xSt) (H : Heap) (locs : List Loc) (ls : Array Slot), xw E A s.heap s σ H locs → lv_has ls 4 [(0, .ref (E.a 12)), (1, .int a1), (2, .int a2), (3, .int a3)] → fX2_gramsIn_c4 n a1 a2 a3 σ = some (o1, o2) → W p l e rmX2_gramsIn s m args below meth c H locs 0 0 (MQ below (xQi E A o1 o2) args s 0 0 A) (F0 m 4 ls []) := by
    intro n4
    induction n4 with
    | zero => intro a1 a2 a3 σ H locs ls hw hl hf; exact nomatch hf
    | succ n4 ih4 =>
      intro a1 a2 a3 σ H locs ls hw hl hf
      rw [fX2_gramsIn_c4_s] at hf
      refine lv_iload_n hx hb dX2_gramsIn_4 rfl (lv_at hl 3 rfl) ?_
      refine lv_aload_n hx hb dX2_gramsIn_5 rfl (lv_at hl 0 rfl) ?_
      refine x_geti hx hb hw (cX12 hE) (own := RX2) (ref := RX2) (C := RX2) (T := TX2) (N := 8) hts hiX2 hown rfl 7 (by decide) hk33 (fun _ h9 => h9) rfl dX2_gramsIn_6 ?_
      refine lv_icmp_ge (tgt := 37) hx hb dX2_gramsIn_9 (by decide) (fun c9 => ?_) (fun c9 => ?_)
      · replace hf := xif_pos c9 hf
        refine lv_iload_n hx hb dX2_gramsIn_37 rfl (lv_at hl 2 rfl) ?_
        exact x_iret hx hb hr hlk hw hf dX2_gramsIn_38
      · replace hf := xif_neg c9 hf
        refine lv_aload_n hx hb dX2_gramsIn_12 rfl (lv_at hl 0 rfl) ?_
        refine x_getr hx hb hw (cX12 hE) (own := RX2) (ref := RX2) (C := RX2) (T := TX2) (N := 8) hts hiX2 hown rfl 4 (by decide) hk24 (fun _ h9 => h9) rfl dX2_gramsIn_13 ?_
        refine lv_iload_n hx hb dX2_gramsIn_16 rfl (lv_at hl 3 rfl) ?_
        obtain ⟨hin, hf⟩ := xr_f hf
        refine x_iald hx hb hw (cX17 hE) hin dX2_gramsIn_17 ?_
        refine lv_topi (fun v1 ex => ?_)
        replace hf := hf v1 ex
        clear ex hin
        refine lv_iload_n hx hb dX2_gramsIn_18 rfl (lv_at hl 1 rfl) ?_
        refine lv_icmp_ne (tgt := 31) hx hb dX2_gramsIn_19 (by decide) (fun c19 => ?_) (fun c19 => ?_)
        · replace hf := xif_neg c19 hf
          obtain ⟨v2, ex⟩ : ∃ y : Int32, y = (a3 + 1) := ⟨_, rfl⟩
          replace hf := xl_f hf v2 ex
          refine lv_iinc (v := v2) (lv' := [(3, .int v2), (0, .ref (E.a 12)), (1, .int a1), (2, .int a2)]) hx hb dX2_gramsIn_31 hl (k := 3) rfl (by rw [ex]; rfl) (by decide) rfl (fun ls hl => ?_)
          clear ex
          refine lv_goto (tgt := 4) hx hb dX2_gramsIn_34 (by decide) ?_
          exact ih4 a1 a2 v2 σ _ _ _ hw (lv_sub hl [1, 2, 3, 0] rfl) hf
        · replace hf := xif_pos c19 hf
          refine lv_iload_n hx hb dX2_gramsIn_22 rfl (lv_at hl 2 rfl) ?_
          refine lv_aload_n hx hb dX2_gramsIn_23 rfl (lv_at hl 0 rfl) ?_
          refine x_getr hx hb hw (cX12 hE) (own := RX2) (ref := RX2) (C := RX2) (T := TX2) (N := 8) hts hiX2 hown rfl 2 (by decide) hk18 (fun _ h9 => h9) rfl dX2_gramsIn_24 ?_
          refine lv_iload_n hx hb dX2_gramsIn_27 rfl (lv_at hl 3 rfl) ?_
          obtain ⟨hin, hf⟩ := xr_f hf
          refine x_iald hx hb hw (cX15 hE) hin dX2_gramsIn_28 ?_
          refine lv_topi (fun v3 ex => ?_)
          replace hf := hf v3 ex
          clear ex hin
          refine lv_iadd hx hb dX2_gramsIn_29 ?_
          refine lv_topi (fun v4 ex => ?_)
          replace hf := xl_f hf v4 ex
          clear ex
          refine lv_istore_n (lv' := [(2, .int v4), (0, .ref (E.a 12)), (1, .int a1), (3, .int a3)]) hx hb dX2_gramsIn_30 rfl hl (by decide) rfl (fun ls hl => ?_)
          obtain ⟨v5, ex⟩ : ∃ y : Int32, y = (a3 + 1) := ⟨_, rfl⟩
          replace hf := xl_f hf v5 ex
          refine lv_iinc (v := v5) (lv' := [(3, .int v5), (2, .int v4), (0, .ref (E.a 12)), (1, .int a1)]) hx hb dX2_gramsIn_31 hl (k := 3) rfl (by rw [ex]; rfl) (by decide) rfl (fun ls hl => ?_)
          clear ex
          refine lv_goto (tgt := 4) hx hb dX2_gramsIn_34 (by decide) ?_
          exact ih4 a1 v4 v5 σ _ _ _ hw (lv_sub hl [2, 3, 1, 0] rfl) hf
  refine lv_iconst (v := 0) hx hb dX2_gramsIn_0 (by decide) ?_
  refine lv_istore_n (lv' := [(2, .int 0), (0, .ref (E.a 12)), (1, .int p0)]) hx hb dX2_gramsIn_1 rfl hl (by decide) rfl (fun ls hl => ?_)
  refine lv_iconst (v := 0) hx hb dX2_gramsIn_2 (by decide) ?_
  refine lv_istore_n (lv' := [(3, .int 0), (2, .int 0), (0, .ref (E.a 12)), (1, .int p0)]) hx hb dX2_gramsIn_3 rfl hl (by decide) rfl (fun ls hl => ?_)
  exact h4 xFU p0 0 0 σ _ _ _ hw (lv_sub hl [2, 3, 1, 0] rfl) hf

def fX2_save (p1 : Int32) (σ : xSt) : Option (Int32 × xSt) := (xs σ 1 1560 p1 (σ 12 7) fun σ1 => (xcpy σ1 16 20 0 1 1560 (p1 + 1) 20 fun σ2 => (xcpy σ2 17 20 0 1 1560 ((p1 + 1) + 20) 20 fun σ3 => (xcpy σ3 18 20 0 1 1560 ((p1 + 1) + 40) 20 fun σ4 => (xcpy σ4 19 20 0 1 1560 ((p1 + 1) + 60) 20 fun σ5 => some ((p1 + 81), σ5))))))
abbrev rmX2_save : Room := { frames := 1, cells := 0, slots := 0, locals := 96 }
set_option maxRecDepth 100000 in
set_option maxHeartbeats 4000000 in
theorem mX2_save {l : Launch} {E : xE} (hE : E.sh = shX) (p1 : Int32) (σ : xSt) (o1 : Int32) (o2 : xSt) (hf : fX2_save p1 σ = some (o1, o2)) : xMi l yX2_save wsX2_save rmX2_save E [.ref (E.a 12), .ref (E.a 1), .int p1] σ o1 o2 := by
  unfold fX2_save at hf
  refine xMi_of (cc := cX2_save) (maxL := 3) (ret := (some .int)) (by decide) rfl (Nat.le_of_ble_eq_true rfl) ?_
  intro p e s m args below meth c A ls ⟨hx, hb, hr, hml, hown, hts, hlk⟩ hA hG hw hl
  have hown : s.vm.findClass RX2 = some m.cls := hown
  have hl : lv_has ls 3 [(0, .ref (E.a 12)), (1, .ref (E.a 1)), (2, .int p1)] := hl
  have hk33 := hts (.fieldLink RX2 33 "OvenRound$Doughs" "count" "I") (by decide +kernel)
  have hiX2 : ∀ w ∈ wsX20, w ∈ wsX2_save := by decide +kernel
  have hk21 := hts (.fieldLink RX2 21 "OvenRound$Doughs" "points" "[I") (by decide +kernel)
  have hk24 := hts (.fieldLink RX2 24 "OvenRound$Doughs" "state" "[I") (by decide +kernel)
  have hk27 := hts (.fieldLink RX2 27 "OvenRound$Doughs" "shapedAt" "[I") (by decide +kernel)
  have hk30 := hts (.fieldLink RX2 30 "OvenRound$Doughs" "ovenAt" "[I") (by decide +kernel)
  refine lv_aload_n hx hb dX2_save_0 rfl (lv_at hl 1 rfl) ?_
  refine lv_iload_n hx hb dX2_save_1 rfl (lv_at hl 2 rfl) ?_
  refine lv_aload_n hx hb dX2_save_2 rfl (lv_at hl 0 rfl) ?_
  refine x_geti hx hb hw (cX12 hE) (own := RX2) (ref := RX2) (C := RX2) (T := TX2) (N := 8) hts hiX2 hown rfl 7 (by decide) hk33 (fun _ h9 => h9) rfl dX2_save_3 ?_
  obtain ⟨hin, hf⟩ := xs_f hf
  refine x_iast hx hb hw (cX1 hE) hin dX2_save_6 (fun σ1 H locs ex hw => ?_)
  replace hf := hf σ1 ex
  clear ex hin
  refine lv_aload_n hx hb dX2_save_7 rfl (lv_at hl 0 rfl) ?_
  refine x_getr hx hb hw (cX12 hE) (own := RX2) (ref := RX2) (C := RX2) (T := TX2) (N := 8) hts hiX2 hown rfl 3 (by decide) hk21 (fun _ h9 => h9) rfl dX2_save_8 ?_
  refine lv_iconst (v := 0) hx hb dX2_save_11 (by decide) ?_
  refine lv_aload_n hx hb dX2_save_12 rfl (lv_at hl 1 rfl) ?_
  refine lv_iload_n hx hb dX2_save_13 rfl (lv_at hl 2 rfl) ?_
  refine lv_iconst (v := 1) hx hb dX2_save_14 (by decide) ?_
  refine lv_iadd hx hb dX2_save_15 ?_
  refine lv_bipush (v := 20) hx hb dX2_save_16 (by decide) ?_
  obtain ⟨hin, hf⟩ := xcpy_f hf
  refine x_copy hx hb (hml.trans hl.1.symm) hw hown (hts (.methodLink RX2 37 arraycopyName) (by decide +kernel)) (hts (.native arraycopyName) (by decide +kernel)) (hts (.static arraycopyName) (by decide +kernel)) (hts (.initialized "java/lang/System") (by decide +kernel)) (cX16 hE) (cX1 hE) hin (Nat.le_of_ble_eq_true rfl) (Nat.le_of_ble_eq_true rfl) dX2_save_18 (fun σ2 H locs ex hw => ?_)
  replace hf := hf σ2 ex
  clear ex hin
  refine lv_aload_n hx hb dX2_save_21 rfl (lv_at hl 0 rfl) ?_
  refine x_getr hx hb hw (cX12 hE) (own := RX2) (ref := RX2) (C := RX2) (T := TX2) (N := 8) hts hiX2 hown rfl 4 (by decide) hk24 (fun _ h9 => h9) rfl dX2_save_22 ?_
  refine lv_iconst (v := 0) hx hb dX2_save_25 (by decide) ?_
  refine lv_aload_n hx hb dX2_save_26 rfl (lv_at hl 1 rfl) ?_
  refine lv_iload_n hx hb dX2_save_27 rfl (lv_at hl 2 rfl) ?_
  refine lv_iconst (v := 1) hx hb dX2_save_28 (by decide) ?_
  refine lv_iadd hx hb dX2_save_29 ?_
  refine lv_bipush (v := 20) hx hb dX2_save_30 (by decide) ?_
  refine lv_iadd hx hb dX2_save_32 ?_
  refine lv_bipush (v := 20) hx hb dX2_save_33 (by decide) ?_
  obtain ⟨hin, hf⟩ := xcpy_f hf
  refine x_copy hx hb (hml.trans hl.1.symm) hw hown (hts (.methodLink RX2 37 arraycopyName) (by decide +kernel)) (hts (.native arraycopyName) (by decide +kernel)) (hts (.static arraycopyName) (by decide +kernel)) (hts (.initialized "java/lang/System") (by decide +kernel)) (cX17 hE) (cX1 hE) hin (Nat.le_of_ble_eq_true rfl) (Nat.le_of_ble_eq_true rfl) dX2_save_35 (fun σ3 H locs ex hw => ?_)
  replace hf := hf σ3 ex
  clear ex hin
  refine lv_aload_n hx hb dX2_save_38 rfl (lv_at hl 0 rfl) ?_
  refine x_getr hx hb hw (cX12 hE) (own := RX2) (ref := RX2) (C := RX2) (T := TX2) (N := 8) hts hiX2 hown rfl 5 (by decide) hk27 (fun _ h9 => h9) rfl dX2_save_39 ?_
  refine lv_iconst (v := 0) hx hb dX2_save_42 (by decide) ?_
  refine lv_aload_n hx hb dX2_save_43 rfl (lv_at hl 1 rfl) ?_
  refine lv_iload_n hx hb dX2_save_44 rfl (lv_at hl 2 rfl) ?_
  refine lv_iconst (v := 1) hx hb dX2_save_45 (by decide) ?_
  refine lv_iadd hx hb dX2_save_46 ?_
  refine lv_bipush (v := 40) hx hb dX2_save_47 (by decide) ?_
  refine lv_iadd hx hb dX2_save_49 ?_
  refine lv_bipush (v := 20) hx hb dX2_save_50 (by decide) ?_
  obtain ⟨hin, hf⟩ := xcpy_f hf
  refine x_copy hx hb (hml.trans hl.1.symm) hw hown (hts (.methodLink RX2 37 arraycopyName) (by decide +kernel)) (hts (.native arraycopyName) (by decide +kernel)) (hts (.static arraycopyName) (by decide +kernel)) (hts (.initialized "java/lang/System") (by decide +kernel)) (cX18 hE) (cX1 hE) hin (Nat.le_of_ble_eq_true rfl) (Nat.le_of_ble_eq_true rfl) dX2_save_52 (fun σ4 H locs ex hw => ?_)
  replace hf := hf σ4 ex
  clear ex hin
  refine lv_aload_n hx hb dX2_save_55 rfl (lv_at hl 0 rfl) ?_
  refine x_getr hx hb hw (cX12 hE) (own := RX2) (ref := RX2) (C := RX2) (T := TX2) (N := 8) hts hiX2 hown rfl 6 (by decide) hk30 (fun _ h9 => h9) rfl dX2_save_56 ?_
  refine lv_iconst (v := 0) hx hb dX2_save_59 (by decide) ?_
  refine lv_aload_n hx hb dX2_save_60 rfl (lv_at hl 1 rfl) ?_
  refine lv_iload_n hx hb dX2_save_61 rfl (lv_at hl 2 rfl) ?_
  refine lv_iconst (v := 1) hx hb dX2_save_62 (by decide) ?_
  refine lv_iadd hx hb dX2_save_63 ?_
  refine lv_bipush (v := 60) hx hb dX2_save_64 (by decide) ?_
  refine lv_iadd hx hb dX2_save_66 ?_
  refine lv_bipush (v := 20) hx hb dX2_save_67 (by decide) ?_
  obtain ⟨hin, hf⟩ := xcpy_f hf
  refine x_copy hx hb (hml.trans hl.1.symm) hw hown (hts (.methodLink RX2 37 arraycopyName) (by decide +kernel)) (hts (.native arraycopyName) (by decide +kernel)) (hts (.static arraycopyName) (by decide +kernel)) (hts (.initialized "java/lang/System") (by decide +kernel)) (cX19 hE) (cX1 hE) hin (Nat.le_of_ble_eq_true rfl) (Nat.le_of_ble_eq_true rfl) dX2_save_69 (fun σ5 H locs ex hw => ?_)
  replace hf := hf σ5 ex
  clear ex hin
  refine lv_iload_n hx hb dX2_save_72 rfl (lv_at hl 2 rfl) ?_
  refine lv_bipush (v := 81) hx hb dX2_save_73 (by decide) ?_
  refine lv_iadd hx hb dX2_save_75 ?_
  exact x_iret hx hb hr hlk hw hf dX2_save_76

def fX2_load (p1 : Int32) (σ : xSt) : Option (Int32 × xSt) := (xr σ 1 1560 p1 fun v1 => (xp σ 12 7 v1 fun σ2 => (xcpy σ2 1 1560 (p1 + 1) 16 20 0 20 fun σ3 => (xcpy σ3 1 1560 ((p1 + 1) + 20) 17 20 0 20 fun σ4 => (xcpy σ4 1 1560 ((p1 + 1) + 40) 18 20 0 20 fun σ5 => (xcpy σ5 1 1560 ((p1 + 1) + 60) 19 20 0 20 fun σ6 => some ((p1 + 81), σ6)))))))
abbrev rmX2_load : Room := { frames := 1, cells := 0, slots := 0, locals := 96 }
set_option maxRecDepth 100000 in
set_option maxHeartbeats 4000000 in
theorem mX2_load {l : Launch} {E : xE} (hE : E.sh = shX) (p1 : Int32) (σ : xSt) (o1 : Int32) (o2 : xSt) (hf : fX2_load p1 σ = some (o1, o2)) : xMi l yX2_load wsX2_load rmX2_load E [.ref (E.a 12), .ref (E.a 1), .int p1] σ o1 o2 := by
  unfold fX2_load at hf
  refine xMi_of (cc := cX2_load) (maxL := 3) (ret := (some .int)) (by decide) rfl (Nat.le_of_ble_eq_true rfl) ?_
  intro p e s m args below meth c A ls ⟨hx, hb, hr, hml, hown, hts, hlk⟩ hA hG hw hl
  have hown : s.vm.findClass RX2 = some m.cls := hown
  have hl : lv_has ls 3 [(0, .ref (E.a 12)), (1, .ref (E.a 1)), (2, .int p1)] := hl
  have hk33 := hts (.fieldLink RX2 33 "OvenRound$Doughs" "count" "I") (by decide +kernel)
  have hiX2 : ∀ w ∈ wsX20, w ∈ wsX2_load := by decide +kernel
  have hk21 := hts (.fieldLink RX2 21 "OvenRound$Doughs" "points" "[I") (by decide +kernel)
  have hk24 := hts (.fieldLink RX2 24 "OvenRound$Doughs" "state" "[I") (by decide +kernel)
  have hk27 := hts (.fieldLink RX2 27 "OvenRound$Doughs" "shapedAt" "[I") (by decide +kernel)
  have hk30 := hts (.fieldLink RX2 30 "OvenRound$Doughs" "ovenAt" "[I") (by decide +kernel)
  refine lv_aload_n hx hb dX2_load_0 rfl (lv_at hl 0 rfl) ?_
  refine lv_aload_n hx hb dX2_load_1 rfl (lv_at hl 1 rfl) ?_
  refine lv_iload_n hx hb dX2_load_2 rfl (lv_at hl 2 rfl) ?_
  obtain ⟨hin, hf⟩ := xr_f hf
  refine x_iald hx hb hw (cX1 hE) hin dX2_load_3 ?_
  refine lv_topi (fun v1 ex => ?_)
  replace hf := hf v1 ex
  clear ex hin
  refine x_puti hx hb hw (cX12 hE) (own := RX2) (ref := RX2) (C := RX2) (T := TX2) (N := 8) hts hiX2 tyX2 tyX2_ok nmX2 hown rfl 7 (by decide) hk33 (fun _ h9 => h9) rfl (by decide +kernel) rfl dX2_load_4 (fun σ2 H locs ex hw => ?_)
  replace hf := xp_f hf σ2 ex
  clear ex
  refine lv_aload_n hx hb dX2_load_7 rfl (lv_at hl 1 rfl) ?_
  refine lv_iload_n hx hb dX2_load_8 rfl (lv_at hl 2 rfl) ?_
  refine lv_iconst (v := 1) hx hb dX2_load_9 (by decide) ?_
  refine lv_iadd hx hb dX2_load_10 ?_
  refine lv_aload_n hx hb dX2_load_11 rfl (lv_at hl 0 rfl) ?_
  refine x_getr hx hb hw (cX12 hE) (own := RX2) (ref := RX2) (C := RX2) (T := TX2) (N := 8) hts hiX2 hown rfl 3 (by decide) hk21 (fun _ h9 => h9) rfl dX2_load_12 ?_
  refine lv_iconst (v := 0) hx hb dX2_load_15 (by decide) ?_
  refine lv_bipush (v := 20) hx hb dX2_load_16 (by decide) ?_
  obtain ⟨hin, hf⟩ := xcpy_f hf
  refine x_copy hx hb (hml.trans hl.1.symm) hw hown (hts (.methodLink RX2 37 arraycopyName) (by decide +kernel)) (hts (.native arraycopyName) (by decide +kernel)) (hts (.static arraycopyName) (by decide +kernel)) (hts (.initialized "java/lang/System") (by decide +kernel)) (cX1 hE) (cX16 hE) hin (Nat.le_of_ble_eq_true rfl) (Nat.le_of_ble_eq_true rfl) dX2_load_18 (fun σ3 H locs ex hw => ?_)
  replace hf := hf σ3 ex
  clear ex hin
  refine lv_aload_n hx hb dX2_load_21 rfl (lv_at hl 1 rfl) ?_
  refine lv_iload_n hx hb dX2_load_22 rfl (lv_at hl 2 rfl) ?_
  refine lv_iconst (v := 1) hx hb dX2_load_23 (by decide) ?_
  refine lv_iadd hx hb dX2_load_24 ?_
  refine lv_bipush (v := 20) hx hb dX2_load_25 (by decide) ?_
  refine lv_iadd hx hb dX2_load_27 ?_
  refine lv_aload_n hx hb dX2_load_28 rfl (lv_at hl 0 rfl) ?_
  refine x_getr hx hb hw (cX12 hE) (own := RX2) (ref := RX2) (C := RX2) (T := TX2) (N := 8) hts hiX2 hown rfl 4 (by decide) hk24 (fun _ h9 => h9) rfl dX2_load_29 ?_
  refine lv_iconst (v := 0) hx hb dX2_load_32 (by decide) ?_
  refine lv_bipush (v := 20) hx hb dX2_load_33 (by decide) ?_
  obtain ⟨hin, hf⟩ := xcpy_f hf
  refine x_copy hx hb (hml.trans hl.1.symm) hw hown (hts (.methodLink RX2 37 arraycopyName) (by decide +kernel)) (hts (.native arraycopyName) (by decide +kernel)) (hts (.static arraycopyName) (by decide +kernel)) (hts (.initialized "java/lang/System") (by decide +kernel)) (cX1 hE) (cX17 hE) hin (Nat.le_of_ble_eq_true rfl) (Nat.le_of_ble_eq_true rfl) dX2_load_35 (fun σ4 H locs ex hw => ?_)
  replace hf := hf σ4 ex
  clear ex hin
  refine lv_aload_n hx hb dX2_load_38 rfl (lv_at hl 1 rfl) ?_
  refine lv_iload_n hx hb dX2_load_39 rfl (lv_at hl 2 rfl) ?_
  refine lv_iconst (v := 1) hx hb dX2_load_40 (by decide) ?_
  refine lv_iadd hx hb dX2_load_41 ?_
  refine lv_bipush (v := 40) hx hb dX2_load_42 (by decide) ?_
  refine lv_iadd hx hb dX2_load_44 ?_
  refine lv_aload_n hx hb dX2_load_45 rfl (lv_at hl 0 rfl) ?_
  refine x_getr hx hb hw (cX12 hE) (own := RX2) (ref := RX2) (C := RX2) (T := TX2) (N := 8) hts hiX2 hown rfl 5 (by decide) hk27 (fun _ h9 => h9) rfl dX2_load_46 ?_
  refine lv_iconst (v := 0) hx hb dX2_load_49 (by decide) ?_
  refine lv_bipush (v := 20) hx hb dX2_load_50 (by decide) ?_
  obtain ⟨hin, hf⟩ := xcpy_f hf
  refine x_copy hx hb (hml.trans hl.1.symm) hw hown (hts (.methodLink RX2 37 arraycopyName) (by decide +kernel)) (hts (.native arraycopyName) (by decide +kernel)) (hts (.static arraycopyName) (by decide +kernel)) (hts (.initialized "java/lang/System") (by decide +kernel)) (cX1 hE) (cX18 hE) hin (Nat.le_of_ble_eq_true rfl) (Nat.le_of_ble_eq_true rfl) dX2_load_52 (fun σ5 H locs ex hw => ?_)
  replace hf := hf σ5 ex
  clear ex hin
  refine lv_aload_n hx hb dX2_load_55 rfl (lv_at hl 1 rfl) ?_
  refine lv_iload_n hx hb dX2_load_56 rfl (lv_at hl 2 rfl) ?_
  refine lv_iconst (v := 1) hx hb dX2_load_57 (by decide) ?_
  refine lv_iadd hx hb dX2_load_58 ?_
  refine lv_bipush (v := 60) hx hb dX2_load_59 (by decide) ?_
  refine lv_iadd hx hb dX2_load_61 ?_
  refine lv_aload_n hx hb dX2_load_62 rfl (lv_at hl 0 rfl) ?_
  refine x_getr hx hb hw (cX12 hE) (own := RX2) (ref := RX2) (C := RX2) (T := TX2) (N := 8) hts hiX2 hown rfl 6 (by decide) hk30 (fun _ h9 => h9) rfl dX2_load_63 ?_
  refine lv_iconst (v := 0) hx hb dX2_load_66 (by decide) ?_
  refine lv_bipush (v := 20) hx hb dX2_load_67 (by decide) ?_
  obtain ⟨hin, hf⟩ := xcpy_f hf
  refine x_copy hx hb (hml.trans hl.1.symm) hw hown (hts (.methodLink RX2 37 arraycopyName) (by decide +kernel)) (hts (.native arraycopyName) (by decide +kernel)) (hts (.static arraycopyName) (by decide +kernel)) (hts (.initialized "java/lang/System") (by decide +kernel)) (cX1 hE) (cX19 hE) hin (Nat.le_of_ble_eq_true rfl) (Nat.le_of_ble_eq_true rfl) dX2_load_69 (fun σ6 H locs ex hw => ?_)
  replace hf := hf σ6 ex
  clear ex hin
  refine lv_iload_n hx hb dX2_load_72 rfl (lv_at hl 2 rfl) ?_
  refine lv_bipush (v := 81) hx hb dX2_load_73 (by decide) ?_
  refine lv_iadd hx hb dX2_load_75 ?_
  exact x_iret hx hb hr hlk hw hf dX2_load_76

def fX3_isIn (p0 : Int32) (p1 : Int32) (σ : xSt) : Option (Int32 × xSt) := (if ((p0 >>> (p1 &&& 31)) &&& 1) = 0 then some (0, σ) else some (1, σ))
abbrev rmX3_isIn : Room := { frames := 0, cells := 0, slots := 0, locals := 0 }
set_option maxRecDepth 100000 in
set_option maxHeartbeats 4000000 in
theorem mX3_isIn {l : Launch} {E : xE} (hE : E.sh = shX) (p0 : Int32) (p1 : Int32) (σ : xSt) (o1 : Int32) (o2 : xSt) (hf : fX3_isIn p0 p1 σ = some (o1, o2)) : xMi l yX3_isIn wsX3_isIn rmX3_isIn E [.int p0, .int p1] σ o1 o2 := by
  unfold fX3_isIn at hf
  refine xMi_of (cc := cX3_isIn) (maxL := 2) (ret := (some .boolean)) (by decide) rfl (Nat.le_of_ble_eq_true rfl) ?_
  intro p e s m args below meth c A ls ⟨hx, hb, hr, hml, hown, hts, hlk⟩ hA hG hw hl
  have hown : s.vm.findClass RX3 = some m.cls := hown
  have hl : lv_has ls 2 [(0, .int p0), (1, .int p1)] := hl
  refine lv_iload_n hx hb dX3_isIn_0 rfl (lv_at hl 0 rfl) ?_
  refine lv_iload_n hx hb dX3_isIn_1 rfl (lv_at hl 1 rfl) ?_
  refine lv_ishr hx hb dX3_isIn_2 ?_
  refine lv_iconst (v := 1) hx hb dX3_isIn_3 (by decide) ?_
  refine lv_iand hx hb dX3_isIn_4 ?_
  refine lv_if_eq (tgt := 12) hx hb dX3_isIn_5 (by decide) (fun c5 => ?_) (fun c5 => ?_)
  · replace hf := xif_pos c5 hf
    refine lv_iconst (v := 0) hx hb dX3_isIn_12 (by decide) ?_
    exact x_zretc hx hb hr hlk hw (by decide) hf dX3_isIn_13
  · replace hf := xif_neg c5 hf
    refine lv_iconst (v := 1) hx hb dX3_isIn_8 (by decide) ?_
    refine lv_goto (tgt := 13) hx hb dX3_isIn_9 (by decide) ?_
    exact x_zretc hx hb hr hlk hw (by decide) hf dX3_isIn_13

def fX3_tryOneFree_c38 (k6 : (Int32 → Int32 → Int32 → Int32 → xSt → Option xSt)) (a1 : Int32) (a2 : Int32) (a3 : Int32) (a4 : Int32) (t0 : Int32) (t1 : Int32) (σ : xSt) : Option xSt := (xs σ 34 4 t1 t0 fun σ6 => (xr σ6 34 4 a4 fun v7 => (xl (a3 - v7) fun v8 => (xl (a4 + 1) fun v9 => k6 a1 a2 v8 v9 σ6))))
def fX3_tryOneFree_c6 : Nat → Int32 → Int32 → Int32 → Int32 → xSt → Option xSt
  | 0 => fun _ _ _ _ _ => none
  | n + 1 => fun a1 a2 a3 a4 σ => (if 4 ≤ a4 then (xs σ 34 4 a2 a3 fun σ1 => (xp σ1 29 6 100 fun σ2 => some σ2)) else (xc2 (fX3_isIn a1 a4 σ) fun r3 σ4 => (if r3 = 0 then fX3_tryOneFree_c38 (fX3_tryOneFree_c6 n) a1 a2 a3 a4 0 a4 σ4 else (xr σ4 32 4 a4 fun v5 => fX3_tryOneFree_c38 (fX3_tryOneFree_c6 n) a1 a2 a3 a4 v5 a4 σ4))))
theorem fX3_tryOneFree_c6_s (n : Nat) (a1 : Int32) (a2 : Int32) (a3 : Int32) (a4 : Int32) (σ : xSt) : fX3_tryOneFree_c6 (n + 1) a1 a2 a3 a4 σ = ((if 4 ≤ a4 then (xs σ 34 4 a2 a3 fun σ1 => (xp σ1 29 6 100 fun σ2 => some σ2)) else (xc2 (fX3_isIn a1 a4 σ) fun r3 σ4 => (if r3 = 0 then fX3_tryOneFree_c38 (fX3_tryOneFree_c6 n) a1 a2 a3 a4 0 a4 σ4 else (xr σ4 32 4 a4 fun v5 => fX3_tryOneFree_c38 (fX3_tryOneFree_c6 n) a1 a2 a3 a4 v5 a4 σ4)))) : Option xSt) := rfl
def fX3_tryOneFree (p0 : Int32) (p1 : Int32) (σ : xSt) : Option xSt := fX3_tryOneFree_c6 xFU p0 p1 100 0 σ
abbrev rmX3_tryOneFree : Room := { frames := 1, cells := 0, slots := 0, locals := 21 }
set_option maxRecDepth 100000 in
set_option maxHeartbeats 4000000 in
theorem mX3_tryOneFree {l : Launch} {E : xE} (hE : E.sh = shX) (p0 : Int32) (p1 : Int32) (σ : xSt) (o1 : xSt) (hf : fX3_tryOneFree p0 p1 σ = some o1) : xMv l yX3_tryOneFree wsX3_tryOneFree rmX3_tryOneFree E [.ref (E.a 29), .int p0, .int p1] σ o1 := by
  unfold fX3_tryOneFree at hf
  refine xMv_of (cc := cX3_tryOneFree) (maxL := 5) (ret := none) (by decide) rfl (Nat.le_of_ble_eq_true rfl) ?_
  intro p e s m args below meth c A ls ⟨hx, hb, hr, hml, hown, hts, hlk⟩ hA hG hw hl
  have hown : s.vm.findClass RX3 = some m.cls := hown
  have hl : lv_has ls 5 [(0, .ref (E.a 29)), (1, .int p0), (2, .int p1)] := hl
  have hk24 := hts (.fieldLink RX3 24 "OvenRound$Flours" "tops" "[I") (by decide +kernel)
  have hiX3 : ∀ w ∈ wsX30, w ∈ wsX3_tryOneFree := by decide +kernel
  have hk49 := hts (.fieldLink RX3 49 "OvenRound$Flours" "bottom" "I") (by decide +kernel)
  have hk18 := hts (.fieldLink RX3 18 "OvenRound$Flours" "cap" "[I") (by decide +kernel)
  have h6 : ∀ (n : Nat) (a1 : Int32) (a2 : Int32) (a3 : Int32) (a4 : Int32) (σ : xSt) (H : Heap) (locs : List Loc) (ls : Array Slot), xw E A s.heap s σ H locs → lv_has ls 5 [(0, .ref (E.a 29)), (1, .int a1), (2, .int a2), (3, .int a3), (4, .int a4)] → fX3_tryOneFree_c6 n a1 a2 a3 a4 σ = some o1 → W p l e rmX3_tryOneFree s m args below meth c H locs 0 0 (MQ below (xQv E A o1) args s 0 0 A) (F0 m 6 ls []) := by
    intro n6
    induction n6 with
    | zero => intro a1 a2 a3 a4 σ H locs ls hw hl hf; exact nomatch hf
    | succ n6 ih6 =>
      have h38 : ∀ (a1 : Int32) (a2 : Int32) (a3 : Int32) (a4 : Int32) (t0 : Int32) (t1 : Int32) (σ : xSt) (H : Heap) (locs : List Loc) (ls : Array Slot), xw E A s.heap s σ H locs → lv_has ls 5 [(0, .ref (E.a 29)), (1, .int a1), (2, .int a2), (3, .int a3), (4, .int a4)] → fX3_tryOneFree_c38 (fX3_tryOneFree_c6 n6) a1 a2 a3 a4 t0 t1 σ = some o1 → W p l e rmX3_tryOneFree s m args below meth c H locs 0 0 (MQ below (xQv E A o1) args s 0 0 A) (F0 m 38 ls [.int t0, .int t1, .ref (E.a 34)]) := by
        intro a1 a2 a3 a4 t0 t1 σ H locs ls hw hl hf
        unfold fX3_tryOneFree_c38 at hf
        obtain ⟨hin, hf⟩ := xs_f hf
        refine x_iast hx hb hw (cX34 hE) hin dX3_tryOneFree_38 (fun σ6 H locs ex hw => ?_)
        replace hf := hf σ6 ex
        clear ex hin
        refine lv_iload_n hx hb dX3_tryOneFree_39 rfl (lv_at hl 3 rfl) ?_
        refine lv_aload_n hx hb dX3_tryOneFree_40 rfl (lv_at hl 0 rfl) ?_
        refine x_getr hx hb hw (cX29 hE) (own := RX3) (ref := RX3) (C := RX3) (T := TX3) (N := 7) hts hiX3 hown rfl 5 (by decide) hk24 (fun _ h9 => h9) rfl dX3_tryOneFree_41 ?_
        refine lv_iload hx hb dX3_tryOneFree_44 (lv_at hl 4 rfl) ?_
        obtain ⟨hin, hf⟩ := xr_f hf
        refine x_iald hx hb hw (cX34 hE) hin dX3_tryOneFree_46 ?_
        refine lv_topi (fun v7 ex => ?_)
        replace hf := hf v7 ex
        clear ex hin
        refine lv_isub hx hb dX3_tryOneFree_47 ?_
        refine lv_topi (fun v8 ex => ?_)
        replace hf := xl_f hf v8 ex
        clear ex
        refine lv_istore_n (lv' := [(3, .int v8), (0, .ref (E.a 29)), (1, .int a1), (2, .int a2), (4, .int a4)]) hx hb dX3_tryOneFree_48 rfl hl (by decide) rfl (fun ls hl => ?_)
        obtain ⟨v9, ex⟩ : ∃ y : Int32, y = (a4 + 1) := ⟨_, rfl⟩
        replace hf := xl_f hf v9 ex
        refine lv_iinc (v := v9) (lv' := [(4, .int v9), (3, .int v8), (0, .ref (E.a 29)), (1, .int a1), (2, .int a2)]) hx hb dX3_tryOneFree_49 hl (k := 4) rfl (by rw [ex]; rfl) (by decide) rfl (fun ls hl => ?_)
        clear ex
        refine lv_goto (tgt := 6) hx hb dX3_tryOneFree_52 (by decide) ?_
        exact ih6 a1 a2 v8 v9 σ6 _ _ _ hw (lv_sub hl [2, 3, 4, 1, 0] rfl) hf
      intro a1 a2 a3 a4 σ H locs ls hw hl hf
      rw [fX3_tryOneFree_c6_s] at hf
      refine lv_iload hx hb dX3_tryOneFree_6 (lv_at hl 4 rfl) ?_
      refine lv_iconst (v := 4) hx hb dX3_tryOneFree_8 (by decide) ?_
      refine lv_icmp_ge (tgt := 55) hx hb dX3_tryOneFree_9 (by decide) (fun c9 => ?_) (fun c9 => ?_)
      · replace hf := xif_pos c9 hf
        refine lv_aload_n hx hb dX3_tryOneFree_55 rfl (lv_at hl 0 rfl) ?_
        refine x_getr hx hb hw (cX29 hE) (own := RX3) (ref := RX3) (C := RX3) (T := TX3) (N := 7) hts hiX3 hown rfl 5 (by decide) hk24 (fun _ h9 => h9) rfl dX3_tryOneFree_56 ?_
        refine lv_iload_n hx hb dX3_tryOneFree_59 rfl (lv_at hl 2 rfl) ?_
        refine lv_iload_n hx hb dX3_tryOneFree_60 rfl (lv_at hl 3 rfl) ?_
        obtain ⟨hin, hf⟩ := xs_f hf
        refine x_iast hx hb hw (cX34 hE) hin dX3_tryOneFree_61 (fun σ1 H locs ex hw => ?_)
        replace hf := hf σ1 ex
        clear ex hin
        refine lv_aload_n hx hb dX3_tryOneFree_62 rfl (lv_at hl 0 rfl) ?_
        refine lv_bipush (v := 100) hx hb dX3_tryOneFree_63 (by decide) ?_
        refine x_puti hx hb hw (cX29 hE) (own := RX3) (ref := RX3) (C := RX3) (T := TX3) (N := 7) hts hiX3 tyX3 tyX3_ok nmX3 hown rfl 6 (by decide) hk49 (fun _ h9 => h9) rfl (by decide +kernel) rfl dX3_tryOneFree_65 (fun σ2 H locs ex hw => ?_)
        replace hf := xp_f hf σ2 ex
        clear ex
        exact x_vret hx hb hr hlk hw hf dX3_tryOneFree_68
      · replace hf := xif_neg c9 hf
        refine lv_aload_n hx hb dX3_tryOneFree_12 rfl (lv_at hl 0 rfl) ?_
        refine x_getr hx hb hw (cX29 hE) (own := RX3) (ref := RX3) (C := RX3) (T := TX3) (N := 7) hts hiX3 hown rfl 5 (by decide) hk24 (fun _ h9 => h9) rfl dX3_tryOneFree_13 ?_
        refine lv_iload hx hb dX3_tryOneFree_16 (lv_at hl 4 rfl) ?_
        refine lv_iload_n hx hb dX3_tryOneFree_18 rfl (lv_at hl 1 rfl) ?_
        refine lv_iload hx hb dX3_tryOneFree_19 (lv_at hl 4 rfl) ?_
        obtain ⟨r3, σ4, hcl, hf⟩ := xc2_f hf
        refine x_calli (va_runS (As := [.int a1, .int a4]) (rest := [.int a4, .ref (E.a 34)]) ⟨hx, hb, hml, hown, hts⟩ (mX3_isIn hE a1 a4 σ r3 σ4 hcl H.size) (va_cwS 2 hts gX3_tryOneFree_X3_isIn rfl rfl rfl (by decide +kernel) ⟨Nat.le_of_ble_eq_true rfl, Nat.le_of_ble_eq_true rfl⟩) (x_preS _ hw hA hG) rfl rfl hl.1 rfl (lv_room (Nat.le_of_ble_eq_true rfl)) dX3_tryOneFree_21 ⟨Nat.le_of_ble_eq_true rfl, Nat.le_of_ble_eq_true rfl⟩) hw hA (fun H locs hw => ?_)
        clear hcl
        refine lv_if_eq (tgt := 37) hx hb dX3_tryOneFree_24 (by decide) (fun c24 => ?_) (fun c24 => ?_)
        · replace hf := xif_pos c24 hf
          refine lv_iconst (v := 0) hx hb dX3_tryOneFree_37 (by decide) ?_
          exact h38 a1 a2 a3 a4 0 a4 σ4 _ _ _ hw (lv_sub hl [0, 1, 2, 3, 4] rfl) hf
        · replace hf := xif_neg c24 hf
          refine lv_aload_n hx hb dX3_tryOneFree_27 rfl (lv_at hl 0 rfl) ?_
          refine x_getr hx hb hw (cX29 hE) (own := RX3) (ref := RX3) (C := RX3) (T := TX3) (N := 7) hts hiX3 hown rfl 2 (by decide) hk18 (fun _ h9 => h9) rfl dX3_tryOneFree_28 ?_
          refine lv_iload hx hb dX3_tryOneFree_31 (lv_at hl 4 rfl) ?_
          obtain ⟨hin, hf⟩ := xr_f hf
          refine x_iald hx hb hw (cX32 hE) hin dX3_tryOneFree_33 ?_
          refine lv_topi (fun v5 ex => ?_)
          replace hf := hf v5 ex
          clear ex hin
          refine lv_goto (tgt := 38) hx hb dX3_tryOneFree_34 (by decide) ?_
          exact h38 a1 a2 a3 a4 v5 a4 σ4 _ _ _ hw (lv_sub hl [0, 1, 2, 3, 4] rfl) hf
  refine lv_bipush (v := 100) hx hb dX3_tryOneFree_0 (by decide) ?_
  refine lv_istore_n (lv' := [(3, .int 100), (0, .ref (E.a 29)), (1, .int p0), (2, .int p1)]) hx hb dX3_tryOneFree_2 rfl hl (by decide) rfl (fun ls hl => ?_)
  refine lv_iconst (v := 0) hx hb dX3_tryOneFree_3 (by decide) ?_
  refine lv_istore (lv' := [(4, .int 0), (3, .int 100), (0, .ref (E.a 29)), (1, .int p0), (2, .int p1)]) hx hb dX3_tryOneFree_4 hl (by decide) rfl (fun ls hl => ?_)
  exact h6 xFU p0 p1 100 0 σ _ _ _ hw (lv_sub hl [2, 3, 4, 1, 0] rfl) hf

def fX3_isMix_c5 : Nat → Int32 → Int32 → Int32 → Int32 → xSt → Option (Int32 × xSt)
  | 0 => fun _ _ _ _ _ => none
  | n + 1 => fun a1 a2 a3 a4 σ => (if 4 ≤ a4 then (xc2 (fX11_isWithin a3 (a1 * (σ 29 6)) (a2 * (σ 29 6)) σ) fun r1 σ2 => xb r1 (some (r1, σ2))) else (xr σ 34 4 a4 fun v3 => (if v3 < 0 then some (0, σ) else (xr σ 34 4 a4 fun v4 => (xr σ 32 4 a4 fun v5 => (if (100 * v4) ≤ (v5 * (σ 29 6)) then (xr σ 34 4 a4 fun v6 => (xr σ 30 4 a4 fun v7 => (xl (a3 + (v6 * v7)) fun v8 => (xl (a4 + 1) fun v9 => fX3_isMix_c5 n a1 a2 v8 v9 σ)))) else some (0, σ)))))))
theorem fX3_isMix_c5_s (n : Nat) (a1 : Int32) (a2 : Int32) (a3 : Int32) (a4 : Int32) (σ : xSt) : fX3_isMix_c5 (n + 1) a1 a2 a3 a4 σ = ((if 4 ≤ a4 then (xc2 (fX11_isWithin a3 (a1 * (σ 29 6)) (a2 * (σ 29 6)) σ) fun r1 σ2 => xb r1 (some (r1, σ2))) else (xr σ 34 4 a4 fun v3 => (if v3 < 0 then some (0, σ) else (xr σ 34 4 a4 fun v4 => (xr σ 32 4 a4 fun v5 => (if (100 * v4) ≤ (v5 * (σ 29 6)) then (xr σ 34 4 a4 fun v6 => (xr σ 30 4 a4 fun v7 => (xl (a3 + (v6 * v7)) fun v8 => (xl (a4 + 1) fun v9 => fX3_isMix_c5 n a1 a2 v8 v9 σ)))) else some (0, σ))))))) : Option (Int32 × xSt)) := rfl
def fX3_isMix (p0 : Int32) (p1 : Int32) (σ : xSt) : Option (Int32 × xSt) := fX3_isMix_c5 xFU p0 p1 0 0 σ
abbrev rmX3_isMix : Room := { frames := 1, cells := 0, slots := 0, locals := 22 }
set_option maxRecDepth 100000 in
set_option maxHeartbeats 4000000 in
theorem mX3_isMix {l : Launch} {E : xE} (hE : E.sh = shX) (p0 : Int32) (p1 : Int32) (σ : xSt) (o1 : Int32) (o2 : xSt) (hf : fX3_isMix p0 p1 σ = some (o1, o2)) : xMi l yX3_isMix wsX3_isMix rmX3_isMix E [.ref (E.a 29), .int p0, .int p1] σ o1 o2 := by
  unfold fX3_isMix at hf
  refine xMi_of (cc := cX3_isMix) (maxL := 5) (ret := (some .boolean)) (by decide) rfl (Nat.le_of_ble_eq_true rfl) ?_
  intro p e s m args below meth c A ls ⟨hx, hb, hr, hml, hown, hts, hlk⟩ hA hG hw hl
  have hown : s.vm.findClass RX3 = some m.cls := hown
  have hl : lv_has ls 5 [(0, .ref (E.a 29)), (1, .int p0), (2, .int p1)] := hl
  have hk49 := hts (.fieldLink RX3 49 "OvenRound$Flours" "bottom" "I") (by decide +kernel)
  have hiX3 : ∀ w ∈ wsX30, w ∈ wsX3_isMix := by decide +kernel
  have hk24 := hts (.fieldLink RX3 24 "OvenRound$Flours" "tops" "[I") (by decide +kernel)
  have hk18 := hts (.fieldLink RX3 18 "OvenRound$Flours" "cap" "[I") (by decide +kernel)
  have hk9 := hts (.fieldLink RX3 9 "OvenRound$Flours" "strength" "[I") (by decide +kernel)
  have h5 : ∀ (n : Nat) (a1 : Int32) (a2 : Int32) (a3 : Int32) (a4 : Int32) (σ : xSt) (H : Heap) (locs : List Loc) (ls : Array Slot), xw E A s.heap s σ H locs → lv_has ls 5 [(0, .ref (E.a 29)), (1, .int a1), (2, .int a2), (3, .int a3), (4, .int a4)] → fX3_isMix_c5 n a1 a2 a3 a4 σ = some (o1, o2) → W p l e rmX3_isMix s m args below meth c H locs 0 0 (MQ below (xQi E A o1 o2) args s 0 0 A) (F0 m 5 ls []) := by
    intro n5
    induction n5 with
    | zero => intro a1 a2 a3 a4 σ H locs ls hw hl hf; exact nomatch hf
    | succ n5 ih5 =>
      intro a1 a2 a3 a4 σ H locs ls hw hl hf
      rw [fX3_isMix_c5_s] at hf
      refine lv_iload hx hb dX3_isMix_5 (lv_at hl 4 rfl) ?_
      refine lv_iconst (v := 4) hx hb dX3_isMix_7 (by decide) ?_
      refine lv_icmp_ge (tgt := 72) hx hb dX3_isMix_8 (by decide) (fun c8 => ?_) (fun c8 => ?_)
      · replace hf := xif_pos c8 hf
        refine lv_iload_n hx hb dX3_isMix_72 rfl (lv_at hl 3 rfl) ?_
        refine lv_iload_n hx hb dX3_isMix_73 rfl (lv_at hl 1 rfl) ?_
        refine lv_aload_n hx hb dX3_isMix_74 rfl (lv_at hl 0 rfl) ?_
        refine x_geti hx hb hw (cX29 hE) (own := RX3) (ref := RX3) (C := RX3) (T := TX3) (N := 7) hts hiX3 hown rfl 6 (by decide) hk49 (fun _ h9 => h9) rfl dX3_isMix_75 ?_
        refine lv_imul hx hb dX3_isMix_78 ?_
        refine lv_iload_n hx hb dX3_isMix_79 rfl (lv_at hl 2 rfl) ?_
        refine lv_aload_n hx hb dX3_isMix_80 rfl (lv_at hl 0 rfl) ?_
        refine x_geti hx hb hw (cX29 hE) (own := RX3) (ref := RX3) (C := RX3) (T := TX3) (N := 7) hts hiX3 hown rfl 6 (by decide) hk49 (fun _ h9 => h9) rfl dX3_isMix_81 ?_
        refine lv_imul hx hb dX3_isMix_84 ?_
        obtain ⟨r1, σ2, hcl, hf⟩ := xc2_f hf
        refine x_calli (va_runSN (As := [.int a3, .int (a1 * (σ 29 6)), .int (a2 * (σ 29 6))]) (rest := []) ⟨hx, hb, hml, hown, hts⟩ (mX11_isWithin hE a3 (a1 * (σ 29 6)) (a2 * (σ 29 6)) σ r1 σ2 hcl H.size) ⟨va_cnB 3 hts gX3_isMix_X11_isWithin_n65 rfl rfl rfl (hG.1 (.methodLinkNest RX3 65 yX11_isWithin RX11) (by decide +kernel)) (hts (.initialized RX11) (by decide +kernel)) (by decide +kernel) ⟨Nat.le_of_ble_eq_true rfl, Nat.le_of_ble_eq_true rfl⟩, hts (.static yX11_isWithin) (by decide +kernel), trivial⟩ (x_preS _ hw hA hG) rfl rfl hl.1 rfl (lv_room (Nat.le_of_ble_eq_true rfl)) dX3_isMix_85 ⟨Nat.le_of_ble_eq_true rfl, Nat.le_of_ble_eq_true rfl⟩) hw hA (fun H locs hw => ?_)
        clear hcl
        exact x_zret hx hb hr hlk hw hf dX3_isMix_88
      · replace hf := xif_neg c8 hf
        refine lv_aload_n hx hb dX3_isMix_11 rfl (lv_at hl 0 rfl) ?_
        refine x_getr hx hb hw (cX29 hE) (own := RX3) (ref := RX3) (C := RX3) (T := TX3) (N := 7) hts hiX3 hown rfl 5 (by decide) hk24 (fun _ h9 => h9) rfl dX3_isMix_12 ?_
        refine lv_iload hx hb dX3_isMix_15 (lv_at hl 4 rfl) ?_
        obtain ⟨hin, hf⟩ := xr_f hf
        refine x_iald hx hb hw (cX34 hE) hin dX3_isMix_17 ?_
        refine lv_topi (fun v3 ex => ?_)
        replace hf := hf v3 ex
        clear ex hin
        refine lv_if_lt (tgt := 46) hx hb dX3_isMix_18 (by decide) (fun c18 => ?_) (fun c18 => ?_)
        · replace hf := xif_pos c18 hf
          refine lv_iconst (v := 0) hx hb dX3_isMix_46 (by decide) ?_
          exact x_zretc hx hb hr hlk hw (by decide) hf dX3_isMix_47
        · replace hf := xif_neg c18 hf
          refine lv_bipush (v := 100) hx hb dX3_isMix_21 (by decide) ?_
          refine lv_aload_n hx hb dX3_isMix_23 rfl (lv_at hl 0 rfl) ?_
          refine x_getr hx hb hw (cX29 hE) (own := RX3) (ref := RX3) (C := RX3) (T := TX3) (N := 7) hts hiX3 hown rfl 5 (by decide) hk24 (fun _ h9 => h9) rfl dX3_isMix_24 ?_
          refine lv_iload hx hb dX3_isMix_27 (lv_at hl 4 rfl) ?_
          obtain ⟨hin, hf⟩ := xr_f hf
          refine x_iald hx hb hw (cX34 hE) hin dX3_isMix_29 ?_
          refine lv_topi (fun v4 ex => ?_)
          replace hf := hf v4 ex
          clear ex hin
          refine lv_imul hx hb dX3_isMix_30 ?_
          refine lv_aload_n hx hb dX3_isMix_31 rfl (lv_at hl 0 rfl) ?_
          refine x_getr hx hb hw (cX29 hE) (own := RX3) (ref := RX3) (C := RX3) (T := TX3) (N := 7) hts hiX3 hown rfl 2 (by decide) hk18 (fun _ h9 => h9) rfl dX3_isMix_32 ?_
          refine lv_iload hx hb dX3_isMix_35 (lv_at hl 4 rfl) ?_
          obtain ⟨hin, hf⟩ := xr_f hf
          refine x_iald hx hb hw (cX32 hE) hin dX3_isMix_37 ?_
          refine lv_topi (fun v5 ex => ?_)
          replace hf := hf v5 ex
          clear ex hin
          refine lv_aload_n hx hb dX3_isMix_38 rfl (lv_at hl 0 rfl) ?_
          refine x_geti hx hb hw (cX29 hE) (own := RX3) (ref := RX3) (C := RX3) (T := TX3) (N := 7) hts hiX3 hown rfl 6 (by decide) hk49 (fun _ h9 => h9) rfl dX3_isMix_39 ?_
          refine lv_imul hx hb dX3_isMix_42 ?_
          refine lv_icmp_le (tgt := 48) hx hb dX3_isMix_43 (by decide) (fun c43 => ?_) (fun c43 => ?_)
          · replace hf := xif_pos c43 hf
            refine lv_iload_n hx hb dX3_isMix_48 rfl (lv_at hl 3 rfl) ?_
            refine lv_aload_n hx hb dX3_isMix_49 rfl (lv_at hl 0 rfl) ?_
            refine x_getr hx hb hw (cX29 hE) (own := RX3) (ref := RX3) (C := RX3) (T := TX3) (N := 7) hts hiX3 hown rfl 5 (by decide) hk24 (fun _ h9 => h9) rfl dX3_isMix_50 ?_
            refine lv_iload hx hb dX3_isMix_53 (lv_at hl 4 rfl) ?_
            obtain ⟨hin, hf⟩ := xr_f hf
            refine x_iald hx hb hw (cX34 hE) hin dX3_isMix_55 ?_
            refine lv_topi (fun v6 ex => ?_)
            replace hf := hf v6 ex
            clear ex hin
            refine lv_aload_n hx hb dX3_isMix_56 rfl (lv_at hl 0 rfl) ?_
            refine x_getr hx hb hw (cX29 hE) (own := RX3) (ref := RX3) (C := RX3) (T := TX3) (N := 7) hts hiX3 hown rfl 0 (by decide) hk9 (fun _ h9 => h9) rfl dX3_isMix_57 ?_
            refine lv_iload hx hb dX3_isMix_60 (lv_at hl 4 rfl) ?_
            obtain ⟨hin, hf⟩ := xr_f hf
            refine x_iald hx hb hw (cX30 hE) hin dX3_isMix_62 ?_
            refine lv_topi (fun v7 ex => ?_)
            replace hf := hf v7 ex
            clear ex hin
            refine lv_imul hx hb dX3_isMix_63 ?_
            refine lv_iadd hx hb dX3_isMix_64 ?_
            refine lv_topi (fun v8 ex => ?_)
            replace hf := xl_f hf v8 ex
            clear ex
            refine lv_istore_n (lv' := [(3, .int v8), (0, .ref (E.a 29)), (1, .int a1), (2, .int a2), (4, .int a4)]) hx hb dX3_isMix_65 rfl hl (by decide) rfl (fun ls hl => ?_)
            obtain ⟨v9, ex⟩ : ∃ y : Int32, y = (a4 + 1) := ⟨_, rfl⟩
            replace hf := xl_f hf v9 ex
            refine lv_iinc (v := v9) (lv' := [(4, .int v9), (3, .int v8), (0, .ref (E.a 29)), (1, .int a1), (2, .int a2)]) hx hb dX3_isMix_66 hl (k := 4) rfl (by rw [ex]; rfl) (by decide) rfl (fun ls hl => ?_)
            clear ex
            refine lv_goto (tgt := 5) hx hb dX3_isMix_69 (by decide) ?_
            exact ih5 a1 a2 v8 v9 σ _ _ _ hw (lv_sub hl [2, 3, 4, 1, 0] rfl) hf
          · replace hf := xif_neg c43 hf
            refine lv_iconst (v := 0) hx hb dX3_isMix_46 (by decide) ?_
            exact x_zretc hx hb hr hlk hw (by decide) hf dX3_isMix_47
  refine lv_iconst (v := 0) hx hb dX3_isMix_0 (by decide) ?_
  refine lv_istore_n (lv' := [(3, .int 0), (0, .ref (E.a 29)), (1, .int p0), (2, .int p1)]) hx hb dX3_isMix_1 rfl hl (by decide) rfl (fun ls hl => ?_)
  refine lv_iconst (v := 0) hx hb dX3_isMix_2 (by decide) ?_
  refine lv_istore (lv' := [(4, .int 0), (3, .int 0), (0, .ref (E.a 29)), (1, .int p0), (2, .int p1)]) hx hb dX3_isMix_3 hl (by decide) rfl (fun ls hl => ?_)
  exact h5 xFU p0 p1 0 0 σ _ _ _ hw (lv_sub hl [2, 3, 4, 1, 0] rfl) hf
