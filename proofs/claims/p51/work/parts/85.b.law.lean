def fL_isCrowded_c41 (nn : Nat) (bs : Nat → Option (Int32 × Int32)) (k2 : (Int32 → xSt → Option (Int32 × xSt))) (k12 : (Int32 → Int32 → xSt → Option (Int32 × xSt))) : Nat → Int32 → Int32 → Int32 → Int32 → xSt → Option (Int32 × xSt)
  | 0 => fun _ _ _ _ _ => none
  | n + 1 => fun a2 a3 a4 a5 σ => (if (σ 52 3) ≤ a5 then (xrow bs nn a3 none fun x10 y11 => (xrow bs nn a2 none fun x13 y14 => (xl (if 0 < (((y11 / 10) - ((x13 + 9) / 10)) + 1) then (((y11 / 10) - ((x13 + 9) / 10)) + 1) else 0) fun v16 => (if a4 ≤ ((σ 52 4) * v16) then (xl (a3 + 1) fun v17 => k12 a2 v17 σ) else some (1, σ))))) else (xrow bs nn a5 (xl (a5 + 1) fun v21 => fL_isCrowded_c41 nn bs k2 k12 n a2 a3 a4 v21 σ) fun x18 y19 => (xrow bs nn a5 none fun x22 y23 => (xrow bs nn a2 none fun x25 y26 => (if x22 < x25 then (xl (a5 + 1) fun v28 => fL_isCrowded_c41 nn bs k2 k12 n a2 a3 a4 v28 σ) else (xrow bs nn a5 none fun x29 y30 => (xrow bs nn a3 none fun x32 y33 => (if y33 < y30 then (xl (a5 + 1) fun v35 => fL_isCrowded_c41 nn bs k2 k12 n a2 a3 a4 v35 σ) else (xl (a4 + 1) fun v36 => (xl (a5 + 1) fun v37 => fL_isCrowded_c41 nn bs k2 k12 n a2 a3 v36 v37 σ))))))))))
theorem fL_isCrowded_c41_s (nn : Nat) (bs : Nat → Option (Int32 × Int32)) (k2 : (Int32 → xSt → Option (Int32 × xSt))) (k12 : (Int32 → Int32 → xSt → Option (Int32 × xSt))) (n : Nat) (a2 : Int32) (a3 : Int32) (a4 : Int32) (a5 : Int32) (σ : xSt) : fL_isCrowded_c41 nn bs k2 k12 (n + 1) a2 a3 a4 a5 σ = ((if (σ 52 3) ≤ a5 then (xrow bs nn a3 none fun x10 y11 => (xrow bs nn a2 none fun x13 y14 => (xl (if 0 < (((y11 / 10) - ((x13 + 9) / 10)) + 1) then (((y11 / 10) - ((x13 + 9) / 10)) + 1) else 0) fun v16 => (if a4 ≤ ((σ 52 4) * v16) then (xl (a3 + 1) fun v17 => k12 a2 v17 σ) else some (1, σ))))) else (xrow bs nn a5 (xl (a5 + 1) fun v21 => fL_isCrowded_c41 nn bs k2 k12 n a2 a3 a4 v21 σ) fun x18 y19 => (xrow bs nn a5 none fun x22 y23 => (xrow bs nn a2 none fun x25 y26 => (if x22 < x25 then (xl (a5 + 1) fun v28 => fL_isCrowded_c41 nn bs k2 k12 n a2 a3 a4 v28 σ) else (xrow bs nn a5 none fun x29 y30 => (xrow bs nn a3 none fun x32 y33 => (if y33 < y30 then (xl (a5 + 1) fun v35 => fL_isCrowded_c41 nn bs k2 k12 n a2 a3 a4 v35 σ) else (xl (a4 + 1) fun v36 => (xl (a5 + 1) fun v37 => fL_isCrowded_c41 nn bs k2 k12 n a2 a3 v36 v37 σ)))))))))) : Option (Int32 × xSt)) := rfl
def fL_isCrowded_c12 (nn : Nat) (bs : Nat → Option (Int32 × Int32)) (k2 : (Int32 → xSt → Option (Int32 × xSt))) : Nat → Int32 → Int32 → xSt → Option (Int32 × xSt)
  | 0 => fun _ _ _ => none
  | n + 1 => fun a2 a3 σ => (if (σ 52 3) ≤ a3 then (xl (a2 + 1) fun v1 => k2 v1 σ) else (xrow bs nn a2 (xl (a3 + 1) fun v5 => fL_isCrowded_c12 nn bs k2 n a2 v5 σ) fun x2 y3 => (xrow bs nn a3 (xl (a3 + 1) fun v9 => fL_isCrowded_c12 nn bs k2 n a2 v9 σ) fun x6 y7 => fL_isCrowded_c41 nn bs k2 (fL_isCrowded_c12 nn bs k2 n) xFU a2 a3 0 0 σ)))
theorem fL_isCrowded_c12_s (nn : Nat) (bs : Nat → Option (Int32 × Int32)) (k2 : (Int32 → xSt → Option (Int32 × xSt))) (n : Nat) (a2 : Int32) (a3 : Int32) (σ : xSt) : fL_isCrowded_c12 nn bs k2 (n + 1) a2 a3 σ = ((if (σ 52 3) ≤ a3 then (xl (a2 + 1) fun v1 => k2 v1 σ) else (xrow bs nn a2 (xl (a3 + 1) fun v5 => fL_isCrowded_c12 nn bs k2 n a2 v5 σ) fun x2 y3 => (xrow bs nn a3 (xl (a3 + 1) fun v9 => fL_isCrowded_c12 nn bs k2 n a2 v9 σ) fun x6 y7 => fL_isCrowded_c41 nn bs k2 (fL_isCrowded_c12 nn bs k2 n) xFU a2 a3 0 0 σ))) : Option (Int32 × xSt)) := rfl
def fL_isCrowded_c2 (nn : Nat) (bs : Nat → Option (Int32 × Int32)) : Nat → Int32 → xSt → Option (Int32 × xSt)
  | 0 => fun _ _ => none
  | n + 1 => fun a2 σ => (if (σ 52 3) ≤ a2 then some (0, σ) else fL_isCrowded_c12 nn bs (fL_isCrowded_c2 nn bs n) xFU a2 0 σ)
theorem fL_isCrowded_c2_s (nn : Nat) (bs : Nat → Option (Int32 × Int32)) (n : Nat) (a2 : Int32) (σ : xSt) : fL_isCrowded_c2 nn bs (n + 1) a2 σ = ((if (σ 52 3) ≤ a2 then some (0, σ) else fL_isCrowded_c12 nn bs (fL_isCrowded_c2 nn bs n) xFU a2 0 σ) : Option (Int32 × xSt)) := rfl
def fL_isCrowded (nn : Nat) (bs : Nat → Option (Int32 × Int32)) (σ : xSt) : Option (Int32 × xSt) := fL_isCrowded_c2 nn bs xFU 0 σ
abbrev rmL_isCrowded : Room := { frames := 1, cells := 0, slots := 0, locals := 32 }
set_option maxRecDepth 100000 in
set_option maxHeartbeats 16000000 in
theorem mL_isCrowded {l : Launch} (hl0 : l.stackTraces = false) {E : xE} (hE : xLE E) (nn : Nat) (bs : Nat → Option (Int32 × Int32)) (qb qr : Nat) (f : Nat → Option Nat) (rd : Nat → Int32) (rows : va_W) (hB : xB E.cA nn bs f rows) (σ : xSt) (o1 : Int32) (o2 : xSt) (hf : fL_isCrowded nn bs σ = some (o1, o2)) : xLi l yL_isCrowded wsL_isCrowded rmL_isCrowded (xPlus E ((qb, xRef (E.g.2.2 20) nn f) :: (qr, xInts E.cA nn rd) :: rows)) [.ref (E.a 52), .ref qb] σ o1 o2 0 0 := by
  unfold fL_isCrowded at hf
  refine xLi_of (cc := cL_isCrowded) (maxL := 6) (ret := (some .boolean)) (by decide) rfl (Nat.le_of_ble_eq_true rfl) ?_
  intro p e s m args below meth c A ls ⟨hx, hb, hr, hml, hown, hts, hlk⟩ hA hGL hw hl
  have hG := hGL.1
  have hKA : xKA (E.g.2.2 20) s := hGL.2.2.2.1.2
  have hown : s.vm.findClass RL = some m.cls := hown
  have hl : lv_has ls 6 [(0, .ref (E.a 52)), (1, .ref qb)] := hl
  have hk143 := hts (.fieldLink RL 143 "OvenRoundLaw" "doughs" "I") (by decide +kernel)
  have hiL : ∀ w ∈ wsL0, w ∈ wsL_isCrowded := by decide +kernel
  have hk160 := hts (.fieldLink RL 160 "OvenRoundLaw" "decks" "I") (by decide +kernel)
  have h2 : ∀ (n : Nat) (a2 : Int32) (σ : xSt) (H : Heap) (locs : List Loc) (ls : Array Slot) (nc ns : Nat), xw (xPlus E ((qb, xRef (E.g.2.2 20) nn f) :: (qr, xInts E.cA nn rd) :: rows)) A s.heap s σ H locs → lv_has ls 6 [(0, .ref (E.a 52)), (1, .ref qb), (2, .int a2)] → fL_isCrowded_c2 nn bs n a2 σ = some (o1, o2) → nc + (0) ≤ 0 → ns + (0) ≤ 0 → W p l e rmL_isCrowded s m args below meth c H locs nc ns (MQ below (xQi (xPlus E ((qb, xRef (E.g.2.2 20) nn f) :: (qr, xInts E.cA nn rd) :: rows)) A o1 o2) args s 0 0 A) (F0 m 2 ls []) := by
    intro n2
    induction n2 with
    | zero => intro a2 σ H locs ls nc ns hw hl hf hnc hns; exact nomatch hf
    | succ n2 ih2 =>
      have h12 : ∀ (n : Nat) (a2 : Int32) (a3 : Int32) (σ : xSt) (H : Heap) (locs : List Loc) (ls : Array Slot) (nc ns : Nat), xw (xPlus E ((qb, xRef (E.g.2.2 20) nn f) :: (qr, xInts E.cA nn rd) :: rows)) A s.heap s σ H locs → lv_has ls 6 [(0, .ref (E.a 52)), (1, .ref qb), (2, .int a2), (3, .int a3)] → fL_isCrowded_c12 nn bs (fL_isCrowded_c2 nn bs n2) n a2 a3 σ = some (o1, o2) → nc + (0) ≤ 0 → ns + (0) ≤ 0 → W p l e rmL_isCrowded s m args below meth c H locs nc ns (MQ below (xQi (xPlus E ((qb, xRef (E.g.2.2 20) nn f) :: (qr, xInts E.cA nn rd) :: rows)) A o1 o2) args s 0 0 A) (F0 m 12 ls []) := by
        intro n12
        induction n12 with
        | zero => intro a2 a3 σ H locs ls nc ns hw hl hf hnc hns; exact nomatch hf
        | succ n12 ih12 =>
          have h41 : ∀ (n : Nat) (a2 : Int32) (a3 : Int32) (a4 : Int32) (a5 : Int32) (σ : xSt) (H : Heap) (locs : List Loc) (ls : Array Slot) (nc ns : Nat), xw (xPlus E ((qb, xRef (E.g.2.2 20) nn f) :: (qr, xInts E.cA nn rd) :: rows)) A s.heap s σ H locs → lv_has ls 6 [(0, .ref (E.a 52)), (1, .ref qb), (2, .int a2), (3, .int a3), (4, .int a4), (5, .int a5)] → fL_isCrowded_c41 nn bs (fL_isCrowded_c2 nn bs n2) (fL_isCrowded_c12 nn bs (fL_isCrowded_c2 nn bs n2) n12) n a2 a3 a4 a5 σ = some (o1, o2) → nc + (0) ≤ 0 → ns + (0) ≤ 0 → W p l e rmL_isCrowded s m args below meth c H locs nc ns (MQ below (xQi (xPlus E ((qb, xRef (E.g.2.2 20) nn f) :: (qr, xInts E.cA nn rd) :: rows)) A o1 o2) args s 0 0 A) (F0 m 41 ls []) := by
            intro n41
            induction n41 with
            | zero => intro a2 a3 a4 a5 σ H locs ls nc ns hw hl hf hnc hns; exact nomatch hf
            | succ n41 ih41 =>
              intro a2 a3 a4 a5 σ H locs ls nc ns hw hl hf hnc hns
              rw [fL_isCrowded_c41_s] at hf
              refine lv_iload hx hb dL_isCrowded_41 (lv_at hl 5 rfl) ?_
              refine lv_aload_n hx hb dL_isCrowded_43 rfl (lv_at hl 0 rfl) ?_
              refine x_geti hx hb hw (cL52 (xPlus_LE hE)) (own := RL) (ref := RL) (C := RL) (T := TL) (N := 10) hts hiL hown rfl 3 (by decide) hk143 (fun _ h9 => h9) rfl dL_isCrowded_44 ?_
              refine lv_icmp_ge (tgt := 94) hx hb dL_isCrowded_47 (by decide) (fun c47 => ?_) (fun c47 => ?_)
              · replace hf := xif_pos c47 hf
                refine lv_iconst (v := 0) hx hb dL_isCrowded_94 (by decide) ?_
                refine lv_aload_n hx hb dL_isCrowded_95 rfl (lv_at hl 1 rfl) ?_
                refine lv_iload_n hx hb dL_isCrowded_96 rfl (lv_at hl 3 rfl) ?_
                obtain ⟨hin, hf⟩ := xrow_f hf
                refine x_ald hx hb hKA hw (k := 0) rfl hin dL_isCrowded_97 ?_
                rcases xB_at hB hin with ⟨eb, ef⟩ | ⟨x10, y11, q12, eb, ef, em⟩
                · rw [ef]
                  replace hf := hf.1 eb
                  clear eb ef hin
                  refine lv_iconst (v := 1) hx hb dL_isCrowded_98 (by decide) ?_
                  exact nomatch hf
                · rw [ef]
                  replace hf := hf.2 x10 y11 eb
                  clear eb ef hin
                  refine lv_iconst (v := 1) hx hb dL_isCrowded_98 (by decide) ?_
                  refine x_rld hx hb hw (List.mem_cons_of_mem _ (List.mem_cons_of_mem _ em)) (i := 1) (xin_vp (by decide)) dL_isCrowded_99 ?_
                  refine W.eq (g2 := F0 m 100 ls (.int y11 :: [.int 0])) (by rfl) ?_
                  refine lv_bipush (v := 10) hx hb dL_isCrowded_100 (by decide) ?_
                  refine lv_idiv hx hb dL_isCrowded_102 (by decide) ?_
                  refine lv_aload_n hx hb dL_isCrowded_103 rfl (lv_at hl 1 rfl) ?_
                  refine lv_iload_n hx hb dL_isCrowded_104 rfl (lv_at hl 2 rfl) ?_
                  obtain ⟨hin, hf⟩ := xrow_f hf
                  refine x_ald hx hb hKA hw (k := 0) rfl hin dL_isCrowded_105 ?_
                  rcases xB_at hB hin with ⟨eb, ef⟩ | ⟨x13, y14, q15, eb, ef, em⟩
                  · rw [ef]
                    replace hf := hf.1 eb
                    clear eb ef hin
                    refine lv_iconst (v := 0) hx hb dL_isCrowded_106 (by decide) ?_
                    exact nomatch hf
                  · rw [ef]
                    replace hf := hf.2 x13 y14 eb
                    clear eb ef hin
                    refine lv_iconst (v := 0) hx hb dL_isCrowded_106 (by decide) ?_
                    refine x_rld hx hb hw (List.mem_cons_of_mem _ (List.mem_cons_of_mem _ em)) (i := 0) (xin_vp (by decide)) dL_isCrowded_107 ?_
                    refine W.eq (g2 := F0 m 108 ls (.int x13 :: [.int (y11 / 10), .int 0])) (by rfl) ?_
                    refine lv_bipush (v := 9) hx hb dL_isCrowded_108 (by decide) ?_
                    refine lv_iadd hx hb dL_isCrowded_110 ?_
                    refine lv_bipush (v := 10) hx hb dL_isCrowded_111 (by decide) ?_
                    refine lv_idiv hx hb dL_isCrowded_113 (by decide) ?_
                    refine lv_isub hx hb dL_isCrowded_114 ?_
                    refine lv_iconst (v := 1) hx hb dL_isCrowded_115 (by decide) ?_
                    refine lv_iadd hx hb dL_isCrowded_116 ?_
                    refine va_mmax hx hb (hml.trans hl.1.symm) hown (hts (.methodLink RL 167 Lib.Math.max.name) (by decide +kernel)) (hts (.static Lib.Math.max.name) (by decide +kernel)) (hts (.initialized "java/lang/Math") (by decide +kernel)) (hts (.code Lib.Math.max.name Lib.Math.max.code 2 (some .int)) (by decide +kernel)) (Nat.le_of_ble_eq_true rfl) (Nat.le_of_ble_eq_true rfl) (show nc ≤ 0 by omega) (show ns ≤ 0 by omega) dL_isCrowded_117 ?_
                    refine lv_topi (fun v16 ex => ?_)
                    replace hf := xl_f hf v16 ex
                    clear ex
                    refine lv_istore (lv' := [(5, .int v16), (0, .ref (E.a 52)), (1, .ref qb), (2, .int a2), (3, .int a3), (4, .int a4)]) hx hb dL_isCrowded_120 hl (by decide) rfl (fun ls hl => ?_)
                    refine lv_iload hx hb dL_isCrowded_122 (lv_at hl 5 rfl) ?_
                    refine lv_aload_n hx hb dL_isCrowded_124 rfl (lv_at hl 1 rfl) ?_
                    refine x_geti hx hb hw (cL52 (xPlus_LE hE)) (own := RL) (ref := RL) (C := RL) (T := TL) (N := 10) hts hiL hown rfl 4 (by decide) hk160 (fun _ h9 => h9) rfl dL_isCrowded_125 ?_
                    refine lv_iload hx hb dL_isCrowded_128 (lv_at hl 0 rfl) ?_
                    refine lv_imul hx hb dL_isCrowded_130 ?_
                    refine lv_icmp_le (tgt := 136) hx hb dL_isCrowded_131 (by decide) (fun c131 => ?_) (fun c131 => ?_)
                    · replace hf := xif_pos c131 hf
                      obtain ⟨v17, ex⟩ : ∃ y : Int32, y = (a3 + 1) := ⟨_, rfl⟩
                      replace hf := xl_f hf v17 ex
                      refine lv_iinc (v := v17) (lv' := [(3, .int v17), (5, .int v16), (0, .ref (E.a 52)), (1, .ref qb), (2, .int a2), (4, .int a4)]) hx hb dL_isCrowded_136 hl (k := 4) rfl (by rw [ex]; rfl) (by decide) rfl (fun ls hl => ?_)
                      clear ex
                      refine lv_goto (tgt := 12) hx hb dL_isCrowded_139 (by decide) ?_
                      exact ih12 a2 v17 σ _ _ _ nc ns hw (lv_sub hl [2, 3, 4, 0] rfl) hf (by omega) (by omega)
                    · replace hf := xif_neg c131 hf
                      refine lv_iconst (v := 1) hx hb dL_isCrowded_134 (by decide) ?_
                      exact x_Lzretc hx hb hr hlk hw (by decide) hf (show nc ≤ 0 by omega) (show ns ≤ 0 by omega) dL_isCrowded_135
              · replace hf := xif_neg c47 hf
                refine lv_aload_n hx hb dL_isCrowded_50 rfl (lv_at hl 1 rfl) ?_
                refine lv_iload hx hb dL_isCrowded_51 (lv_at hl 5 rfl) ?_
                obtain ⟨hin, hf⟩ := xrow_f hf
                refine x_ald hx hb hKA hw (k := 0) rfl hin dL_isCrowded_53 ?_
                rcases xB_at hB hin with ⟨eb, ef⟩ | ⟨x18, y19, q20, eb, ef, em⟩
                · rw [ef]
                  replace hf := hf.1 eb
                  clear eb ef hin
                  refine lv_ifnullN (tgt := 88) hx hb dL_isCrowded_54 (by decide) ?_
                  obtain ⟨v21, ex⟩ : ∃ y : Int32, y = (a5 + 1) := ⟨_, rfl⟩
                  replace hf := xl_f hf v21 ex
                  refine lv_iinc (v := v21) (lv' := [(5, .int v21), (0, .ref (E.a 52)), (1, .ref qb), (2, .int a2), (3, .int a3), (4, .int a4)]) hx hb dL_isCrowded_88 hl (k := 5) rfl (by rw [ex]; rfl) (by decide) rfl (fun ls hl => ?_)
                  clear ex
                  refine lv_goto (tgt := 41) hx hb dL_isCrowded_91 (by decide) ?_
                  exact ih41 a2 a3 a4 v21 σ _ _ _ nc ns hw (lv_sub hl [1, 2, 3, 4, 5, 0] rfl) hf (by omega) (by omega)
                · rw [ef]
                  replace hf := hf.2 x18 y19 eb
                  clear eb ef hin
                  refine lv_ifnull hx hb dL_isCrowded_54 ?_
                  refine lv_aload_n hx hb dL_isCrowded_57 rfl (lv_at hl 1 rfl) ?_
                  refine lv_iload hx hb dL_isCrowded_58 (lv_at hl 5 rfl) ?_
                  obtain ⟨hin, hf⟩ := xrow_f hf
                  refine x_ald hx hb hKA hw (k := 0) rfl hin dL_isCrowded_60 ?_
                  rcases xB_at hB hin with ⟨eb, ef⟩ | ⟨x22, y23, q24, eb, ef, em⟩
                  · rw [ef]
                    replace hf := hf.1 eb
                    clear eb ef hin
                    refine lv_iconst (v := 0) hx hb dL_isCrowded_61 (by decide) ?_
                    exact nomatch hf
                  · rw [ef]
                    replace hf := hf.2 x22 y23 eb
                    clear eb ef hin
                    refine lv_iconst (v := 0) hx hb dL_isCrowded_61 (by decide) ?_
                    refine x_rld hx hb hw (List.mem_cons_of_mem _ (List.mem_cons_of_mem _ em)) (i := 0) (xin_vp (by decide)) dL_isCrowded_62 ?_
                    refine W.eq (g2 := F0 m 63 ls (.int x22 :: [])) (by rfl) ?_
                    refine lv_aload_n hx hb dL_isCrowded_63 rfl (lv_at hl 1 rfl) ?_
                    refine lv_iload_n hx hb dL_isCrowded_64 rfl (lv_at hl 2 rfl) ?_
                    obtain ⟨hin, hf⟩ := xrow_f hf
                    refine x_ald hx hb hKA hw (k := 0) rfl hin dL_isCrowded_65 ?_
                    rcases xB_at hB hin with ⟨eb, ef⟩ | ⟨x25, y26, q27, eb, ef, em⟩
                    · rw [ef]
                      replace hf := hf.1 eb
                      clear eb ef hin
                      refine lv_iconst (v := 0) hx hb dL_isCrowded_66 (by decide) ?_
                      exact nomatch hf
                    · rw [ef]
                      replace hf := hf.2 x25 y26 eb
                      clear eb ef hin
                      refine lv_iconst (v := 0) hx hb dL_isCrowded_66 (by decide) ?_
                      refine x_rld hx hb hw (List.mem_cons_of_mem _ (List.mem_cons_of_mem _ em)) (i := 0) (xin_vp (by decide)) dL_isCrowded_67 ?_
                      refine W.eq (g2 := F0 m 68 ls (.int x25 :: [.int x22])) (by rfl) ?_
                      refine lv_icmp_lt (tgt := 88) hx hb dL_isCrowded_68 (by decide) (fun c68 => ?_) (fun c68 => ?_)
                      · replace hf := xif_pos c68 hf
                        obtain ⟨v28, ex⟩ : ∃ y : Int32, y = (a5 + 1) := ⟨_, rfl⟩
                        replace hf := xl_f hf v28 ex
                        refine lv_iinc (v := v28) (lv' := [(5, .int v28), (0, .ref (E.a 52)), (1, .ref qb), (2, .int a2), (3, .int a3), (4, .int a4)]) hx hb dL_isCrowded_88 hl (k := 5) rfl (by rw [ex]; rfl) (by decide) rfl (fun ls hl => ?_)
                        clear ex
                        refine lv_goto (tgt := 41) hx hb dL_isCrowded_91 (by decide) ?_
                        exact ih41 a2 a3 a4 v28 σ _ _ _ nc ns hw (lv_sub hl [1, 2, 3, 4, 5, 0] rfl) hf (by omega) (by omega)
                      · replace hf := xif_neg c68 hf
                        refine lv_aload_n hx hb dL_isCrowded_71 rfl (lv_at hl 1 rfl) ?_
                        refine lv_iload hx hb dL_isCrowded_72 (lv_at hl 5 rfl) ?_
                        obtain ⟨hin, hf⟩ := xrow_f hf
                        refine x_ald hx hb hKA hw (k := 0) rfl hin dL_isCrowded_74 ?_
                        rcases xB_at hB hin with ⟨eb, ef⟩ | ⟨x29, y30, q31, eb, ef, em⟩
                        · rw [ef]
                          replace hf := hf.1 eb
                          clear eb ef hin
                          refine lv_iconst (v := 1) hx hb dL_isCrowded_75 (by decide) ?_
                          exact nomatch hf
                        · rw [ef]
                          replace hf := hf.2 x29 y30 eb
                          clear eb ef hin
                          refine lv_iconst (v := 1) hx hb dL_isCrowded_75 (by decide) ?_
                          refine x_rld hx hb hw (List.mem_cons_of_mem _ (List.mem_cons_of_mem _ em)) (i := 1) (xin_vp (by decide)) dL_isCrowded_76 ?_
                          refine W.eq (g2 := F0 m 77 ls (.int y30 :: [])) (by rfl) ?_
                          refine lv_aload_n hx hb dL_isCrowded_77 rfl (lv_at hl 1 rfl) ?_
                          refine lv_iload_n hx hb dL_isCrowded_78 rfl (lv_at hl 3 rfl) ?_
                          obtain ⟨hin, hf⟩ := xrow_f hf
                          refine x_ald hx hb hKA hw (k := 0) rfl hin dL_isCrowded_79 ?_
                          rcases xB_at hB hin with ⟨eb, ef⟩ | ⟨x32, y33, q34, eb, ef, em⟩
                          · rw [ef]
                            replace hf := hf.1 eb
                            clear eb ef hin
                            refine lv_iconst (v := 1) hx hb dL_isCrowded_80 (by decide) ?_
                            exact nomatch hf
                          · rw [ef]
                            replace hf := hf.2 x32 y33 eb
                            clear eb ef hin
                            refine lv_iconst (v := 1) hx hb dL_isCrowded_80 (by decide) ?_
                            refine x_rld hx hb hw (List.mem_cons_of_mem _ (List.mem_cons_of_mem _ em)) (i := 1) (xin_vp (by decide)) dL_isCrowded_81 ?_
                            refine W.eq (g2 := F0 m 82 ls (.int y33 :: [.int y30])) (by rfl) ?_
                            refine lv_icmp_gt (tgt := 88) hx hb dL_isCrowded_82 (by decide) (fun c82 => ?_) (fun c82 => ?_)
                            · replace hf := xif_pos c82 hf
                              obtain ⟨v35, ex⟩ : ∃ y : Int32, y = (a5 + 1) := ⟨_, rfl⟩
                              replace hf := xl_f hf v35 ex
                              refine lv_iinc (v := v35) (lv' := [(5, .int v35), (0, .ref (E.a 52)), (1, .ref qb), (2, .int a2), (3, .int a3), (4, .int a4)]) hx hb dL_isCrowded_88 hl (k := 5) rfl (by rw [ex]; rfl) (by decide) rfl (fun ls hl => ?_)
                              clear ex
                              refine lv_goto (tgt := 41) hx hb dL_isCrowded_91 (by decide) ?_
                              exact ih41 a2 a3 a4 v35 σ _ _ _ nc ns hw (lv_sub hl [1, 2, 3, 4, 5, 0] rfl) hf (by omega) (by omega)
                            · replace hf := xif_neg c82 hf
                              obtain ⟨v36, ex⟩ : ∃ y : Int32, y = (a4 + 1) := ⟨_, rfl⟩
                              replace hf := xl_f hf v36 ex
                              refine lv_iinc (v := v36) (lv' := [(4, .int v36), (0, .ref (E.a 52)), (1, .ref qb), (2, .int a2), (3, .int a3), (5, .int a5)]) hx hb dL_isCrowded_85 hl (k := 4) rfl (by rw [ex]; rfl) (by decide) rfl (fun ls hl => ?_)
                              clear ex
                              obtain ⟨v37, ex⟩ : ∃ y : Int32, y = (a5 + 1) := ⟨_, rfl⟩
                              replace hf := xl_f hf v37 ex
                              refine lv_iinc (v := v37) (lv' := [(5, .int v37), (4, .int v36), (0, .ref (E.a 52)), (1, .ref qb), (2, .int a2), (3, .int a3)]) hx hb dL_isCrowded_88 hl (k := 5) rfl (by rw [ex]; rfl) (by decide) rfl (fun ls hl => ?_)
                              clear ex
                              refine lv_goto (tgt := 41) hx hb dL_isCrowded_91 (by decide) ?_
                              exact ih41 a2 a3 v36 v37 σ _ _ _ nc ns hw (lv_sub hl [2, 3, 4, 5, 1, 0] rfl) hf (by omega) (by omega)
          intro a2 a3 σ H locs ls nc ns hw hl hf hnc hns
          rw [fL_isCrowded_c12_s] at hf
          refine lv_iload_n hx hb dL_isCrowded_12 rfl (lv_at hl 3 rfl) ?_
          refine lv_aload_n hx hb dL_isCrowded_13 rfl (lv_at hl 0 rfl) ?_
          refine x_geti hx hb hw (cL52 (xPlus_LE hE)) (own := RL) (ref := RL) (C := RL) (T := TL) (N := 10) hts hiL hown rfl 3 (by decide) hk143 (fun _ h9 => h9) rfl dL_isCrowded_14 ?_
          refine lv_icmp_ge (tgt := 142) hx hb dL_isCrowded_17 (by decide) (fun c17 => ?_) (fun c17 => ?_)
          · replace hf := xif_pos c17 hf
            obtain ⟨v1, ex⟩ : ∃ y : Int32, y = (a2 + 1) := ⟨_, rfl⟩
            replace hf := xl_f hf v1 ex
            refine lv_iinc (v := v1) (lv' := [(2, .int v1), (0, .ref (E.a 52)), (1, .ref qb), (3, .int a3)]) hx hb dL_isCrowded_142 hl (k := 2) rfl (by rw [ex]; rfl) (by decide) rfl (fun ls hl => ?_)
            clear ex
            refine lv_goto (tgt := 2) hx hb dL_isCrowded_145 (by decide) ?_
            exact ih2 v1 σ _ _ _ nc ns hw (lv_sub hl [1, 2, 0] rfl) hf (by omega) (by omega)
          · replace hf := xif_neg c17 hf
            refine lv_aload_n hx hb dL_isCrowded_20 rfl (lv_at hl 1 rfl) ?_
            refine lv_iload_n hx hb dL_isCrowded_21 rfl (lv_at hl 2 rfl) ?_
            obtain ⟨hin, hf⟩ := xrow_f hf
            refine x_ald hx hb hKA hw (k := 0) rfl hin dL_isCrowded_22 ?_
            rcases xB_at hB hin with ⟨eb, ef⟩ | ⟨x2, y3, q4, eb, ef, em⟩
            · rw [ef]
              replace hf := hf.1 eb
              clear eb ef hin
              refine lv_ifnullN (tgt := 136) hx hb dL_isCrowded_23 (by decide) ?_
              obtain ⟨v5, ex⟩ : ∃ y : Int32, y = (a3 + 1) := ⟨_, rfl⟩
              replace hf := xl_f hf v5 ex
              refine lv_iinc (v := v5) (lv' := [(3, .int v5), (0, .ref (E.a 52)), (1, .ref qb), (2, .int a2)]) hx hb dL_isCrowded_136 hl (k := 3) rfl (by rw [ex]; rfl) (by decide) rfl (fun ls hl => ?_)
              clear ex
              refine lv_goto (tgt := 12) hx hb dL_isCrowded_139 (by decide) ?_
              exact ih12 a2 v5 σ _ _ _ nc ns hw (lv_sub hl [1, 2, 3, 0] rfl) hf (by omega) (by omega)
            · rw [ef]
              replace hf := hf.2 x2 y3 eb
              clear eb ef hin
              refine lv_ifnull hx hb dL_isCrowded_23 ?_
              refine lv_aload_n hx hb dL_isCrowded_26 rfl (lv_at hl 1 rfl) ?_
              refine lv_iload_n hx hb dL_isCrowded_27 rfl (lv_at hl 3 rfl) ?_
              obtain ⟨hin, hf⟩ := xrow_f hf
              refine x_ald hx hb hKA hw (k := 0) rfl hin dL_isCrowded_28 ?_
              rcases xB_at hB hin with ⟨eb, ef⟩ | ⟨x6, y7, q8, eb, ef, em⟩
              · rw [ef]
                replace hf := hf.1 eb
                clear eb ef hin
                refine lv_ifnonnullN hx hb dL_isCrowded_29 ?_
                refine lv_goto (tgt := 136) hx hb dL_isCrowded_32 (by decide) ?_
                obtain ⟨v9, ex⟩ : ∃ y : Int32, y = (a3 + 1) := ⟨_, rfl⟩
                replace hf := xl_f hf v9 ex
                refine lv_iinc (v := v9) (lv' := [(3, .int v9), (0, .ref (E.a 52)), (1, .ref qb), (2, .int a2)]) hx hb dL_isCrowded_136 hl (k := 3) rfl (by rw [ex]; rfl) (by decide) rfl (fun ls hl => ?_)
                clear ex
                refine lv_goto (tgt := 12) hx hb dL_isCrowded_139 (by decide) ?_
                exact ih12 a2 v9 σ _ _ _ nc ns hw (lv_sub hl [1, 2, 3, 0] rfl) hf (by omega) (by omega)
              · rw [ef]
                replace hf := hf.2 x6 y7 eb
                clear eb ef hin
                refine lv_ifnonnull (tgt := 35) hx hb dL_isCrowded_29 (by decide) ?_
                refine lv_iconst (v := 0) hx hb dL_isCrowded_35 (by decide) ?_
                refine lv_istore (lv' := [(4, .int 0), (0, .ref (E.a 52)), (1, .ref qb), (2, .int a2), (3, .int a3)]) hx hb dL_isCrowded_36 hl (by decide) rfl (fun ls hl => ?_)
                refine lv_iconst (v := 0) hx hb dL_isCrowded_38 (by decide) ?_
                refine lv_istore (lv' := [(5, .int 0), (4, .int 0), (0, .ref (E.a 52)), (1, .ref qb), (2, .int a2), (3, .int a3)]) hx hb dL_isCrowded_39 hl (by decide) rfl (fun ls hl => ?_)
                exact h41 xFU a2 a3 0 0 σ _ _ _ nc ns hw (lv_sub hl [2, 3, 4, 5, 1, 0] rfl) hf (by omega) (by omega)
      intro a2 σ H locs ls nc ns hw hl hf hnc hns
      rw [fL_isCrowded_c2_s] at hf
      refine lv_iload_n hx hb dL_isCrowded_2 rfl (lv_at hl 2 rfl) ?_
      refine lv_aload_n hx hb dL_isCrowded_3 rfl (lv_at hl 0 rfl) ?_
      refine x_geti hx hb hw (cL52 (xPlus_LE hE)) (own := RL) (ref := RL) (C := RL) (T := TL) (N := 10) hts hiL hown rfl 3 (by decide) hk143 (fun _ h9 => h9) rfl dL_isCrowded_4 ?_
      refine lv_icmp_ge (tgt := 148) hx hb dL_isCrowded_7 (by decide) (fun c7 => ?_) (fun c7 => ?_)
      · replace hf := xif_pos c7 hf
        refine lv_iconst (v := 0) hx hb dL_isCrowded_148 (by decide) ?_
        exact x_Lzretc hx hb hr hlk hw (by decide) hf (show nc ≤ 0 by omega) (show ns ≤ 0 by omega) dL_isCrowded_149
      · replace hf := xif_neg c7 hf
        refine lv_iconst (v := 0) hx hb dL_isCrowded_10 (by decide) ?_
        refine lv_istore_n (lv' := [(3, .int 0), (0, .ref (E.a 52)), (1, .ref qb), (2, .int a2)]) hx hb dL_isCrowded_11 rfl hl (by decide) rfl (fun ls hl => ?_)
        exact h12 xFU a2 0 σ _ _ _ nc ns hw (lv_sub hl [1, 2, 3, 0] rfl) hf (by omega) (by omega)
  refine lv_iconst (v := 0) hx hb dL_isCrowded_0 (by decide) ?_
  refine lv_istore_n (lv' := [(2, .int 0), (0, .ref (E.a 52)), (1, .ref qb)]) hx hb dL_isCrowded_1 rfl hl (by decide) rfl (fun ls hl => ?_)
  exact h2 xFU 0 σ _ _ _ 0 0 hw (lv_sub hl [1, 2, 0] rfl) hf (by omega) (by omega)
