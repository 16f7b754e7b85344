/-! the shapes of the two worlds -/
def shX : xSh := [.inr (11, [some 2, some 4, some 12, some 20, some 21, some 27, some 29, some 35, some 38, some 46, some 49, some 1, none, none]), .inl 1560, .inr (10, [some 3, none, none, none]), .inl 8, .inr (8, [some 5, some 6, some 7, some 8, some 9, some 10, some 11, none]), .inl 6, .inl 6, .inl 6, .inl 6, .inl 6, .inl 6, .inl 48, .inr (2, [some 13, some 14, some 15, some 16, some 17, some 18, some 19, none]), .inl 20, .inl 20, .inl 20, .inl 20, .inl 20, .inl 20, .inl 20, .inr (5, [none, none, none, none, none]), .inr (7, [some 4, some 12, some 20, some 22, some 23, some 24, some 25, some 26]), .inl 20, .inl 20, .inl 20, .inl 20, .inl 40, .inr (0, [some 28]), .inl 24, .inr (3, [some 30, some 31, some 32, some 33, none, some 34, none]), .inl 4, .inl 4, .inl 4, .inl 4, .inl 4, .inr (4, [some 36, some 37]), .inl 360, .inl 6, .inr (1, [some 39, some 40, some 41, some 42, some 43, none, some 44, none, some 45]), .inl 8, .inl 8, .inl 7, .inl 7, .inl 7, .inl 7, .inl 7, .inr (9, [some 4, some 47, some 48, none]), .inl 6, .inl 6, .inr (6, [some 50, none, some 51]), .inl 80, .inl 8]
def shM : xSh := [.inr (12, [none, some 1, some 2, none, none, some 3, none, some 4, some 5, some 6, some 7, some 8, some 9, some 10, none, none, some 11, some 12, none, none]), .inl 680, .inl 5440, .inl 80, .inl 8, .inl 8, .inl 20, .inl 20, .inl 20, .inl 4, .inl 4, .inl 8, .inl 8]
theorem cX0 {E : xE} (hE : E.sh = shX) : E.sh[0]? = some (.inr (11, [some 2, some 4, some 12, some 20, some 21, some 27, some 29, some 35, some 38, some 46, some 49, some 1, none, none])) := by rw [hE]; rfl
theorem cX1 {E : xE} (hE : E.sh = shX) : E.sh[1]? = some (.inl 1560) := by rw [hE]; rfl
theorem cX2 {E : xE} (hE : E.sh = shX) : E.sh[2]? = some (.inr (10, [some 3, none, none, none])) := by rw [hE]; rfl
theorem cX3 {E : xE} (hE : E.sh = shX) : E.sh[3]? = some (.inl 8) := by rw [hE]; rfl
theorem cX4 {E : xE} (hE : E.sh = shX) : E.sh[4]? = some (.inr (8, [some 5, some 6, some 7, some 8, some 9, some 10, some 11, none])) := by rw [hE]; rfl
theorem cX5 {E : xE} (hE : E.sh = shX) : E.sh[5]? = some (.inl 6) := by rw [hE]; rfl
theorem cX6 {E : xE} (hE : E.sh = shX) : E.sh[6]? = some (.inl 6) := by rw [hE]; rfl
theorem cX7 {E : xE} (hE : E.sh = shX) : E.sh[7]? = some (.inl 6) := by rw [hE]; rfl
theorem cX8 {E : xE} (hE : E.sh = shX) : E.sh[8]? = some (.inl 6) := by rw [hE]; rfl
theorem cX9 {E : xE} (hE : E.sh = shX) : E.sh[9]? = some (.inl 6) := by rw [hE]; rfl
theorem cX10 {E : xE} (hE : E.sh = shX) : E.sh[10]? = some (.inl 6) := by rw [hE]; rfl
theorem cX11 {E : xE} (hE : E.sh = shX) : E.sh[11]? = some (.inl 48) := by rw [hE]; rfl
theorem cX12 {E : xE} (hE : E.sh = shX) : E.sh[12]? = some (.inr (2, [some 13, some 14, some 15, some 16, some 17, some 18, some 19, none])) := by rw [hE]; rfl
theorem cX13 {E : xE} (hE : E.sh = shX) : E.sh[13]? = some (.inl 20) := by rw [hE]; rfl
theorem cX14 {E : xE} (hE : E.sh = shX) : E.sh[14]? = some (.inl 20) := by rw [hE]; rfl
theorem cX15 {E : xE} (hE : E.sh = shX) : E.sh[15]? = some (.inl 20) := by rw [hE]; rfl
theorem cX16 {E : xE} (hE : E.sh = shX) : E.sh[16]? = some (.inl 20) := by rw [hE]; rfl
theorem cX17 {E : xE} (hE : E.sh = shX) : E.sh[17]? = some (.inl 20) := by rw [hE]; rfl
theorem cX18 {E : xE} (hE : E.sh = shX) : E.sh[18]? = some (.inl 20) := by rw [hE]; rfl
theorem cX19 {E : xE} (hE : E.sh = shX) : E.sh[19]? = some (.inl 20) := by rw [hE]; rfl
theorem cX20 {E : xE} (hE : E.sh = shX) : E.sh[20]? = some (.inr (5, [none, none, none, none, none])) := by rw [hE]; rfl
theorem cX21 {E : xE} (hE : E.sh = shX) : E.sh[21]? = some (.inr (7, [some 4, some 12, some 20, some 22, some 23, some 24, some 25, some 26])) := by rw [hE]; rfl
theorem cX22 {E : xE} (hE : E.sh = shX) : E.sh[22]? = some (.inl 20) := by rw [hE]; rfl
theorem cX23 {E : xE} (hE : E.sh = shX) : E.sh[23]? = some (.inl 20) := by rw [hE]; rfl
theorem cX24 {E : xE} (hE : E.sh = shX) : E.sh[24]? = some (.inl 20) := by rw [hE]; rfl
theorem cX25 {E : xE} (hE : E.sh = shX) : E.sh[25]? = some (.inl 20) := by rw [hE]; rfl
theorem cX26 {E : xE} (hE : E.sh = shX) : E.sh[26]? = some (.inl 40) := by rw [hE]; rfl
theorem cX27 {E : xE} (hE : E.sh = shX) : E.sh[27]? = some (.inr (0, [some 28])) := by rw [hE]; rfl
theorem cX28 {E : xE} (hE : E.sh = shX) : E.sh[28]? = some (.inl 24) := by rw [hE]; rfl
theorem cX29 {E : xE} (hE : E.sh = shX) : E.sh[29]? = some (.inr (3, [some 30, some 31, some 32, some 33, none, some 34, none])) := by rw [hE]; rfl
theorem cX30 {E : xE} (hE : E.sh = shX) : E.sh[30]? = some (.inl 4) := by rw [hE]; rfl
theorem cX31 {E : xE} (hE : E.sh = shX) : E.sh[31]? = some (.inl 4) := by rw [hE]; rfl
theorem cX32 {E : xE} (hE : E.sh = shX) : E.sh[32]? = some (.inl 4) := by rw [hE]; rfl
theorem cX33 {E : xE} (hE : E.sh = shX) : E.sh[33]? = some (.inl 4) := by rw [hE]; rfl
theorem cX34 {E : xE} (hE : E.sh = shX) : E.sh[34]? = some (.inl 4) := by rw [hE]; rfl
theorem cX35 {E : xE} (hE : E.sh = shX) : E.sh[35]? = some (.inr (4, [some 36, some 37])) := by rw [hE]; rfl
theorem cX36 {E : xE} (hE : E.sh = shX) : E.sh[36]? = some (.inl 360) := by rw [hE]; rfl
theorem cX37 {E : xE} (hE : E.sh = shX) : E.sh[37]? = some (.inl 6) := by rw [hE]; rfl
theorem cX38 {E : xE} (hE : E.sh = shX) : E.sh[38]? = some (.inr (1, [some 39, some 40, some 41, some 42, some 43, none, some 44, none, some 45])) := by rw [hE]; rfl
theorem cX39 {E : xE} (hE : E.sh = shX) : E.sh[39]? = some (.inl 8) := by rw [hE]; rfl
theorem cX40 {E : xE} (hE : E.sh = shX) : E.sh[40]? = some (.inl 8) := by rw [hE]; rfl
theorem cX41 {E : xE} (hE : E.sh = shX) : E.sh[41]? = some (.inl 7) := by rw [hE]; rfl
theorem cX42 {E : xE} (hE : E.sh = shX) : E.sh[42]? = some (.inl 7) := by rw [hE]; rfl
theorem cX43 {E : xE} (hE : E.sh = shX) : E.sh[43]? = some (.inl 7) := by rw [hE]; rfl
theorem cX44 {E : xE} (hE : E.sh = shX) : E.sh[44]? = some (.inl 7) := by rw [hE]; rfl
theorem cX45 {E : xE} (hE : E.sh = shX) : E.sh[45]? = some (.inl 7) := by rw [hE]; rfl
theorem cX46 {E : xE} (hE : E.sh = shX) : E.sh[46]? = some (.inr (9, [some 4, some 47, some 48, none])) := by rw [hE]; rfl
theorem cX47 {E : xE} (hE : E.sh = shX) : E.sh[47]? = some (.inl 6) := by rw [hE]; rfl
theorem cX48 {E : xE} (hE : E.sh = shX) : E.sh[48]? = some (.inl 6) := by rw [hE]; rfl
theorem cX49 {E : xE} (hE : E.sh = shX) : E.sh[49]? = some (.inr (6, [some 50, none, some 51])) := by rw [hE]; rfl
theorem cX50 {E : xE} (hE : E.sh = shX) : E.sh[50]? = some (.inl 80) := by rw [hE]; rfl
theorem cX51 {E : xE} (hE : E.sh = shX) : E.sh[51]? = some (.inl 8) := by rw [hE]; rfl
theorem cM0 {E : xE} (hE : E.sh = shM) : E.sh[0]? = some (.inr (12, [none, some 1, some 2, none, none, some 3, none, some 4, some 5, some 6, some 7, some 8, some 9, some 10, none, none, some 11, some 12, none, none])) := by rw [hE]; rfl
theorem cM1 {E : xE} (hE : E.sh = shM) : E.sh[1]? = some (.inl 680) := by rw [hE]; rfl
theorem cM2 {E : xE} (hE : E.sh = shM) : E.sh[2]? = some (.inl 5440) := by rw [hE]; rfl
theorem cM3 {E : xE} (hE : E.sh = shM) : E.sh[3]? = some (.inl 80) := by rw [hE]; rfl
theorem cM4 {E : xE} (hE : E.sh = shM) : E.sh[4]? = some (.inl 8) := by rw [hE]; rfl
theorem cM5 {E : xE} (hE : E.sh = shM) : E.sh[5]? = some (.inl 8) := by rw [hE]; rfl
theorem cM6 {E : xE} (hE : E.sh = shM) : E.sh[6]? = some (.inl 20) := by rw [hE]; rfl
theorem cM7 {E : xE} (hE : E.sh = shM) : E.sh[7]? = some (.inl 20) := by rw [hE]; rfl
theorem cM8 {E : xE} (hE : E.sh = shM) : E.sh[8]? = some (.inl 20) := by rw [hE]; rfl
theorem cM9 {E : xE} (hE : E.sh = shM) : E.sh[9]? = some (.inl 4) := by rw [hE]; rfl
theorem cM10 {E : xE} (hE : E.sh = shM) : E.sh[10]? = some (.inl 4) := by rw [hE]; rfl
theorem cM11 {E : xE} (hE : E.sh = shM) : E.sh[11]? = some (.inl 8) := by rw [hE]; rfl
theorem cM12 {E : xE} (hE : E.sh = shM) : E.sh[12]? = some (.inl 8) := by rw [hE]; rfl

def fX0_from_c5 : Nat → Int32 → Int32 → Int32 → xSt → Option (Int32 × xSt)
  | 0 => fun _ _ _ _ => none
  | n + 1 => fun a1 a3 a4 σ => (if 4 ≤ a4 then some (a3, σ) else (xr σ 28 24 ((a1 * 4) + a4) fun v1 => (xl (a3 + v1) fun v2 => (xl (a4 + 1) fun v3 => fX0_from_c5 n a1 v2 v3 σ))))
theorem fX0_from_c5_s (n : Nat) (a1 : Int32) (a3 : Int32) (a4 : Int32) (σ : xSt) : fX0_from_c5 (n + 1) a1 a3 a4 σ = (if 4 ≤ a4 then some (a3, σ) else (xr σ 28 24 ((a1 * 4) + a4) fun v1 => (xl (a3 + v1) fun v2 => (xl (a4 + 1) fun v3 => fX0_from_c5 n a1 v2 v3 σ)))) := rfl
def fX0_from (p0 : Int32) (p1 : Int32) (σ : xSt) : Option (Int32 × xSt) := fX0_from_c5 xFU p0 0 p1 σ
abbrev rmX0_from : Room := { frames := 0, cells := 0, slots := 0, locals := 0 }
set_option maxRecDepth 100000 in
set_option maxHeartbeats 4000000 in
theorem mX0_from {l : Launch} {E : xE} (hE : E.sh = shX) (p0 : Int32) (p1 : Int32) (σ : xSt) (o1 : Int32) (o2 : xSt) (hf : fX0_from p0 p1 σ = some (o1, o2)) : xMi l yX0_from wsX0_from rmX0_from E [.ref (E.a 27), .int p0, .int p1] σ o1 o2 := by
  unfold fX0_from at hf
  refine xMi_of (cc := cX0_from) (maxL := 5) (ret := (some .int)) (by decide) rfl (Nat.le_of_ble_eq_true rfl) ?_
  intro p e s m args below meth c A ls ⟨hx, hb, hr, hml, hown, hts, hlk⟩ hA hG hw hl
  have hown : s.vm.findClass RX0 = some m.cls := hown
  have hl : lv_has ls 5 [(0, .ref (E.a 27)), (1, .int p0), (2, .int p1)] := hl
  have hk11 := hts (.fieldLink RX0 11 "OvenRound$Breads" "pieces" "[I") (by decide +kernel)
  have hiX0 : ∀ w ∈ wsX00, w ∈ wsX0_from := by decide +kernel
  have h5 : ∀ (n : Nat) (a1 : Int32) (a3 : Int32) (a4 : Int32) (σ : xSt) (H : Heap) (locs : List Loc) (ls : Array Slot), xw E A s.heap s σ H locs → lv_has ls 5 [(0, .ref (E.a 27)), (1, .int a1), (3, .int a3), (4, .int a4)] → fX0_from_c5 n a1 a3 a4 σ = some (o1, o2) → W p l e rmX0_from s m args below meth c H locs 0 0 (MQ below (xQi E A o1 o2) args s 0 0 A) (F0 m 5 ls []) := by
    intro n
    induction n with
    | zero => intro a1 a3 a4 σ H locs ls hw hl hf; exact nomatch hf
    | succ n ih5 =>
      intro a1 a3 a4 σ H locs ls hw hl hf
      rw [fX0_from_c5_s] at hf
      refine lv_iload hx hb dX0_from_5 (lv_at hl 3 rfl) ?_
      refine lv_iconst (v := 4) hx hb dX0_from_7 (by decide) ?_
      refine lv_icmp_ge (tgt := 31) hx hb dX0_from_8 (by decide) (fun c8 => ?_) (fun c8 => ?_)
      · replace hf := xif_pos c8 hf
        refine lv_iload_n hx hb dX0_from_31 rfl (lv_at hl 2 rfl) ?_
        exact x_iret hx hb hr hlk hw hf dX0_from_32
      · replace hf := xif_neg c8 hf
        refine lv_iload_n hx hb dX0_from_11 rfl (lv_at hl 2 rfl) ?_
        refine lv_aload_n hx hb dX0_from_12 rfl (lv_at hl 0 rfl) ?_
        refine x_getr hx hb hw (cX27 hE) (own := RX0) (ref := RX0) (C := RX0) (T := TX0) (N := 1) hts hiX0 hown rfl 0 (by decide) hk11 (fun _ h9 => h9) rfl dX0_from_13 ?_
        refine lv_iload_n hx hb dX0_from_16 rfl (lv_at hl 1 rfl) ?_
        refine lv_iconst (v := 4) hx hb dX0_from_17 (by decide) ?_
        refine lv_imul hx hb dX0_from_18 ?_
        refine lv_iload hx hb dX0_from_19 (lv_at hl 3 rfl) ?_
        refine lv_iadd hx hb dX0_from_21 ?_
        obtain ⟨hin, hf⟩ := xr_f hf
        refine x_iald hx hb hw (cX28 hE) hin dX0_from_22 ?_
        refine lv_topi (fun v1 ex => ?_)
        replace hf := hf v1 ex
        clear ex hin
        refine lv_iadd hx hb dX0_from_23 ?_
        refine lv_topi (fun v2 ex => ?_)
        replace hf := xl_f hf v2 ex
        clear ex
        refine lv_istore_n (lv' := [(3, .int v2), (0, .ref (E.a 27)), (1, .int a1), (4, .int a4)]) hx hb dX0_from_24 rfl hl (by decide) rfl (fun ls hl => ?_)
        obtain ⟨v3, ex⟩ : ∃ y : Int32, y = (a4 + 1) := ⟨_, rfl⟩
        replace hf := xl_f hf v3 ex
        refine lv_iinc (v := v3) (lv' := [(4, .int v3), (3, .int v2), (0, .ref (E.a 27)), (1, .int a1)]) hx hb dX0_from_25 hl (k := 3) rfl (by rw [ex]; rfl) (by decide) rfl (fun ls hl => ?_)
        clear ex
        refine lv_goto (tgt := 5) hx hb dX0_from_28 (by decide) ?_
        exact ih5 a1 v2 v3 σ _ _ _ hw (lv_sub hl [2, 3, 1, 0] rfl) hf
  refine lv_iconst (v := 0) hx hb dX0_from_0 (by decide) ?_
  refine lv_istore_n (lv' := [(3, .int 0), (0, .ref (E.a 27)), (1, .int p0), (2, .int p1)]) hx hb dX0_from_1 rfl hl (by decide) rfl (fun ls hl => ?_)
  refine lv_iload_n hx hb dX0_from_2 rfl (lv_at hl 3 rfl) ?_
  refine lv_istore (lv' := [(4, .int p1), (3, .int 0), (0, .ref (E.a 27)), (1, .int p0), (2, .int p1)]) hx hb dX0_from_3 hl (by decide) rfl (fun ls hl => ?_)
  exact h5 xFU p0 0 p1 σ _ _ _ hw (lv_sub hl [2, 3, 1, 0] rfl) hf

def fX0_growOlder_c18 : Nat → Int32 → Int32 → Int32 → xSt → Option (Int32 × xSt)
  | 0 => fun _ _ _ _ => none
  | n + 1 => fun a2 a3 a4 σ => (if a4 ≤ 0 then (xs σ 28 24 a2 0 fun σ3 => some (a3, σ3)) else (xr σ 28 24 ((a2 + a4) - 1) fun v4 => (xs σ 28 24 (a2 + a4) v4 fun σ5 => (xl (a4 + (-1)) fun v6 => fX0_growOlder_c18 n a2 a3 v6 σ5))))
theorem fX0_growOlder_c18_s (n : Nat) (a2 : Int32) (a3 : Int32) (a4 : Int32) (σ : xSt) : fX0_growOlder_c18 (n + 1) a2 a3 a4 σ = (if a4 ≤ 0 then (xs σ 28 24 a2 0 fun σ3 => some (a3, σ3)) else (xr σ 28 24 ((a2 + a4) - 1) fun v4 => (xs σ 28 24 (a2 + a4) v4 fun σ5 => (xl (a4 + (-1)) fun v6 => fX0_growOlder_c18 n a2 a3 v6 σ5)))) := rfl
def fX0_growOlder (p0 : Int32) (σ : xSt) : Option (Int32 × xSt) := (xl (p0 * 4) fun v1 => (xr σ 28 24 ((v1 + 4) - 1) fun v2 => fX0_growOlder_c18 xFU v1 v2 3 σ))
abbrev rmX0_growOlder : Room := { frames := 0, cells := 0, slots := 0, locals := 0 }
set_option maxRecDepth 100000 in
set_option maxHeartbeats 4000000 in
theorem mX0_growOlder {l : Launch} {E : xE} (hE : E.sh = shX) (p0 : Int32) (σ : xSt) (o1 : Int32) (o2 : xSt) (hf : fX0_growOlder p0 σ = some (o1, o2)) : xMi l yX0_growOlder wsX0_growOlder rmX0_growOlder E [.ref (E.a 27), .int p0] σ o1 o2 := by
  unfold fX0_growOlder at hf
  refine xMi_of (cc := cX0_growOlder) (maxL := 5) (ret := (some .int)) (by decide) rfl (Nat.le_of_ble_eq_true rfl) ?_
  intro p e s m args below meth c A ls ⟨hx, hb, hr, hml, hown, hts, hlk⟩ hA hG hw hl
  have hown : s.vm.findClass RX0 = some m.cls := hown
  have hl : lv_has ls 5 [(0, .ref (E.a 27)), (1, .int p0)] := hl
  have hk11 := hts (.fieldLink RX0 11 "OvenRound$Breads" "pieces" "[I") (by decide +kernel)
  have hiX0 : ∀ w ∈ wsX00, w ∈ wsX0_growOlder := by decide +kernel
  have h18 : ∀ (n : Nat) (a2 : Int32) (a3 : Int32) (a4 : Int32) (σ : xSt) (H : Heap) (locs : List Loc) (ls : Array Slot), xw E A s.heap s σ H locs → lv_has ls 5 [(0, .ref (E.a 27)), (2, .int a2), (3, .int a3), (4, .int a4)] → fX0_growOlder_c18 n a2 a3 a4 σ = some (o1, o2) → W p l e rmX0_growOlder s m args below meth c H locs 0 0 (MQ below (xQi E A o1 o2) args s 0 0 A) (F0 m 18 ls []) := by
    intro n
    induction n with
    | zero => intro a2 a3 a4 σ H locs ls hw hl hf; exact nomatch hf
    | succ n ih18 =>
      intro a2 a3 a4 σ H locs ls hw hl hf
      rw [fX0_growOlder_c18_s] at hf
      refine lv_iload hx hb dX0_growOlder_18 (lv_at hl 3 rfl) ?_
      refine lv_if_le (tgt := 49) hx hb dX0_growOlder_20 (by decide) (fun c20 => ?_) (fun c20 => ?_)
      · replace hf := xif_pos c20 hf
        refine lv_aload_n hx hb dX0_growOlder_49 rfl (lv_at hl 0 rfl) ?_
        refine x_getr hx hb hw (cX27 hE) (own := RX0) (ref := RX0) (C := RX0) (T := TX0) (N := 1) hts hiX0 hown rfl 0 (by decide) hk11 (fun _ h9 => h9) rfl dX0_growOlder_50 ?_
        refine lv_iload_n hx hb dX0_growOlder_53 rfl (lv_at hl 1 rfl) ?_
        refine lv_iconst (v := 0) hx hb dX0_growOlder_54 (by decide) ?_
        obtain ⟨hin, hf⟩ := xs_f hf
        refine x_iast hx hb hw (cX28 hE) hin dX0_growOlder_55 (fun σ3 H locs ex hw => ?_)
        replace hf := hf σ3 ex
        clear ex hin
        refine lv_iload_n hx hb dX0_growOlder_56 rfl (lv_at hl 2 rfl) ?_
        exact x_iret hx hb hr hlk hw hf dX0_growOlder_57
      · replace hf := xif_neg c20 hf
        refine lv_aload_n hx hb dX0_growOlder_23 rfl (lv_at hl 0 rfl) ?_
        refine x_getr hx hb hw (cX27 hE) (own := RX0) (ref := RX0) (C := RX0) (T := TX0) (N := 1) hts hiX0 hown rfl 0 (by decide) hk11 (fun _ h9 => h9) rfl dX0_growOlder_24 ?_
        refine lv_iload_n hx hb dX0_growOlder_27 rfl (lv_at hl 1 rfl) ?_
        refine lv_iload hx hb dX0_growOlder_28 (lv_at hl 3 rfl) ?_
        refine lv_iadd hx hb dX0_growOlder_30 ?_
        refine lv_aload_n hx hb dX0_growOlder_31 rfl (lv_at hl 0 rfl) ?_
        refine x_getr hx hb hw (cX27 hE) (own := RX0) (ref := RX0) (C := RX0) (T := TX0) (N := 1) hts hiX0 hown rfl 0 (by decide) hk11 (fun _ h9 => h9) rfl dX0_growOlder_32 ?_
        refine lv_iload_n hx hb dX0_growOlder_35 rfl (lv_at hl 1 rfl) ?_
        refine lv_iload hx hb dX0_growOlder_36 (lv_at hl 3 rfl) ?_
        refine lv_iadd hx hb dX0_growOlder_38 ?_
        refine lv_iconst (v := 1) hx hb dX0_growOlder_39 (by decide) ?_
        refine lv_isub hx hb dX0_growOlder_40 ?_
        obtain ⟨hin, hf⟩ := xr_f hf
        refine x_iald hx hb hw (cX28 hE) hin dX0_growOlder_41 ?_
        refine lv_topi (fun v4 ex => ?_)
        replace hf := hf v4 ex
        clear ex hin
        obtain ⟨hin, hf⟩ := xs_f hf
        refine x_iast hx hb hw (cX28 hE) hin dX0_growOlder_42 (fun σ5 H locs ex hw => ?_)
        replace hf := hf σ5 ex
        clear ex hin
        obtain ⟨v6, ex⟩ : ∃ y : Int32, y = (a4 + (-1)) := ⟨_, rfl⟩
        replace hf := xl_f hf v6 ex
        refine lv_iinc (v := v6) (lv' := [(4, .int v6), (0, .ref (E.a 27)), (2, .int a2), (3, .int a3)]) hx hb dX0_growOlder_43 hl (k := 3) rfl (by rw [ex]; rfl) (by decide) rfl (fun ls hl => ?_)
        clear ex
        refine lv_goto (tgt := 18) hx hb dX0_growOlder_46 (by decide) ?_
        exact ih18 a2 a3 v6 σ5 _ _ _ hw (lv_sub hl [1, 2, 3, 0] rfl) hf
  refine lv_iload_n hx hb dX0_growOlder_0 rfl (lv_at hl 1 rfl) ?_
  refine lv_iconst (v := 4) hx hb dX0_growOlder_1 (by decide) ?_
  refine lv_imul hx hb dX0_growOlder_2 ?_
  refine lv_topi (fun v1 ex => ?_)
  replace hf := xl_f hf v1 ex
  clear ex
  refine lv_istore_n (lv' := [(2, .int v1), (0, .ref (E.a 27)), (1, .int p0)]) hx hb dX0_growOlder_3 rfl hl (by decide) rfl (fun ls hl => ?_)
  refine lv_aload_n hx hb dX0_growOlder_4 rfl (lv_at hl 1 rfl) ?_
  refine x_getr hx hb hw (cX27 hE) (own := RX0) (ref := RX0) (C := RX0) (T := TX0) (N := 1) hts hiX0 hown rfl 0 (by decide) hk11 (fun _ h9 => h9) rfl dX0_growOlder_5 ?_
  refine lv_iload_n hx hb dX0_growOlder_8 rfl (lv_at hl 0 rfl) ?_
  refine lv_iconst (v := 4) hx hb dX0_growOlder_9 (by decide) ?_
  refine lv_iadd hx hb dX0_growOlder_10 ?_
  refine lv_iconst (v := 1) hx hb dX0_growOlder_11 (by decide) ?_
  refine lv_isub hx hb dX0_growOlder_12 ?_
  obtain ⟨hin, hf⟩ := xr_f hf
  refine x_iald hx hb hw (cX28 hE) hin dX0_growOlder_13 ?_
  refine lv_topi (fun v2 ex => ?_)
  replace hf := hf v2 ex
  clear ex hin
  refine lv_istore_n (lv' := [(3, .int v2), (2, .int v1), (0, .ref (E.a 27)), (1, .int p0)]) hx hb dX0_growOlder_14 rfl hl (by decide) rfl (fun ls hl => ?_)
  refine lv_iconst (v := 3) hx hb dX0_growOlder_15 (by decide) ?_
  refine lv_istore (lv' := [(4, .int 3), (3, .int v2), (2, .int v1), (0, .ref (E.a 27)), (1, .int p0)]) hx hb dX0_growOlder_16 hl (by decide) rfl (fun ls hl => ?_)
  exact h18 xFU v1 v2 3 σ _ _ _ hw (lv_sub hl [3, 2, 1, 0] rfl) hf
