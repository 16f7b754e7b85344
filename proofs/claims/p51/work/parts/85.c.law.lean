def fL_isPlanned_c191 (nn : Nat) (k176 : (Int32 → Int32 → (Nat → Option (Int32 × Int32)) → (Nat → Int32) → xSt → Option (Int32 × xSt))) : Nat → Int32 → Int32 → Int32 → Int32 → (Nat → Option (Int32 × Int32)) → (Nat → Int32) → xSt → Option (Int32 × xSt)
  | 0 => fun _ _ _ _ _ _ _ => none
  | n + 1 => fun a2 a5 a6 a7 bs rd σ => (if (σ 52 3) ≤ a7 then (if a6 ≤ (σ 52 4) then (xl (a5 + 1) fun v37 => k176 a2 v37 bs rd σ) else some (0, σ)) else (xrow bs nn a7 (xl (a7 + 1) fun v41 => fL_isPlanned_c191 nn k176 n a2 a5 a6 v41 bs rd σ) fun x38 y39 => (xrs rd nn a7 fun v42 => (if v42 = (-1) then (xl (a7 + 1) fun v43 => fL_isPlanned_c191 nn k176 n a2 a5 a6 v43 bs rd σ) else (xrs rd nn a7 fun v44 => (xrs rd nn a5 fun v45 => (if v44 = v45 then (xl (a6 + 1) fun v47 => (xl (a7 + 1) fun v48 => fL_isPlanned_c191 nn k176 n a2 a5 v47 v48 bs rd σ)) else (xl (a7 + 1) fun v46 => fL_isPlanned_c191 nn k176 n a2 a5 a6 v46 bs rd σ))))))))
theorem fL_isPlanned_c191_s (nn : Nat) (k176 : (Int32 → Int32 → (Nat → Option (Int32 × Int32)) → (Nat → Int32) → xSt → Option (Int32 × xSt))) (n : Nat) (a2 : Int32) (a5 : Int32) (a6 : Int32) (a7 : Int32) (bs : (Nat → Option (Int32 × Int32))) (rd : (Nat → Int32)) (σ : xSt) : fL_isPlanned_c191 nn k176 (n + 1) a2 a5 a6 a7 bs rd σ = ((if (σ 52 3) ≤ a7 then (if a6 ≤ (σ 52 4) then (xl (a5 + 1) fun v37 => k176 a2 v37 bs rd σ) else some (0, σ)) else (xrow bs nn a7 (xl (a7 + 1) fun v41 => fL_isPlanned_c191 nn k176 n a2 a5 a6 v41 bs rd σ) fun x38 y39 => (xrs rd nn a7 fun v42 => (if v42 = (-1) then (xl (a7 + 1) fun v43 => fL_isPlanned_c191 nn k176 n a2 a5 a6 v43 bs rd σ) else (xrs rd nn a7 fun v44 => (xrs rd nn a5 fun v45 => (if v44 = v45 then (xl (a6 + 1) fun v47 => (xl (a7 + 1) fun v48 => fL_isPlanned_c191 nn k176 n a2 a5 v47 v48 bs rd σ)) else (xl (a7 + 1) fun v46 => fL_isPlanned_c191 nn k176 n a2 a5 a6 v46 bs rd σ)))))))) : Option (Int32 × xSt)) := rfl
def fL_isPlanned_c176 (nn : Nat) : Nat → Int32 → Int32 → (Nat → Option (Int32 × Int32)) → (Nat → Int32) → xSt → Option (Int32 × xSt)
  | 0 => fun _ _ _ _ _ => none
  | n + 1 => fun a2 a5 bs rd σ => (if (σ 52 3) ≤ a5 then (if a2 = 0 then some (1, σ) else (xc2 (fL_isCrowded nn bs σ) fun r35 σ36 => (if r35 = 0 then some (0, σ36) else some (1, σ36)))) else fL_isPlanned_c191 nn (fL_isPlanned_c176 nn n) xFU a2 a5 0 0 bs rd σ)
theorem fL_isPlanned_c176_s (nn : Nat) (n : Nat) (a2 : Int32) (a5 : Int32) (bs : (Nat → Option (Int32 × Int32))) (rd : (Nat → Int32)) (σ : xSt) : fL_isPlanned_c176 nn (n + 1) a2 a5 bs rd σ = ((if (σ 52 3) ≤ a5 then (if a2 = 0 then some (1, σ) else (xc2 (fL_isCrowded nn bs σ) fun r35 σ36 => (if r35 = 0 then some (0, σ36) else some (1, σ36)))) else fL_isPlanned_c191 nn (fL_isPlanned_c176 nn n) xFU a2 a5 0 0 bs rd σ) : Option (Int32 × xSt)) := rfl
def fL_isPlanned_c74 (nn : Nat) (k23 : (Int32 → Int32 → Int32 → (Nat → Option (Int32 × Int32)) → (Nat → Int32) → xSt → Option (Int32 × xSt))) (a1 : Int32) (a2 : Int32) (a5 : Int32) (bs : (Nat → Option (Int32 × Int32))) (rd : (Nat → Int32)) (σ : xSt) : Option (Int32 × xSt) := (xrow bs nn a5 (xl (a5 + 1) fun v20 => k23 a1 a2 v20 bs rd σ) fun x17 y18 => (xl (a1 + 1) fun v21 => (xrs rd nn a5 fun v22 => (if v22 = (-1) then (xl (a2 + 1) fun v33 => (xl (a5 + 1) fun v34 => k23 v21 v33 v34 bs rd σ)) else (xrs rd nn a5 fun v23 => (if (v23 - v23 / 10 * 10) = 0 then (xrs rd nn a5 fun v24 => (xrow bs nn a5 none fun x25 y26 => (if v24 < x25 then some (0, σ) else (xrs rd nn a5 fun v28 => (xrow bs nn a5 none fun x29 y30 => (if v28 ≤ y30 then (xl (a5 + 1) fun v32 => k23 v21 a2 v32 bs rd σ) else some (0, σ))))))) else some (0, σ)))))))
def fL_isPlanned_c23 (nn : Nat) : Nat → Int32 → Int32 → Int32 → (Nat → Option (Int32 × Int32)) → (Nat → Int32) → xSt → Option (Int32 × xSt)
  | 0 => fun _ _ _ _ _ _ => none
  | n + 1 => fun a1 a2 a5 bs rd σ => (if (σ 52 3) ≤ a5 then (xcm (fX11_inPlan σ) σ fun r1 σ2 => (if r1 = a1 then (xcm (fX11_late σ2) σ2 fun r3 σ4 => (if r3 = a2 then fL_isPlanned_c176 nn xFU a2 0 bs rd σ4 else some (0, σ4))) else some (0, σ2))) else (xc2 (fL_bounds a5 σ) fun o5 σ6 => (xbs nn a5 (xl (xbu bs (a5).toNatClampNeg o5) fun bs7 => (xco (fX11_planned a5 σ6) σ6 fun r10 σ11 => (xbs nn a5 (xl (upd rd (a5).toNatClampNeg r10) fun rd12 => (xrow bs7 nn a5 (xrs rd12 nn a5 fun v16 => (if v16 = (-1) then fL_isPlanned_c74 nn (fL_isPlanned_c23 nn n) a1 a2 a5 bs7 rd12 σ11 else some (0, σ11))) fun x13 y14 => fL_isPlanned_c74 nn (fL_isPlanned_c23 nn n) a1 a2 a5 bs7 rd12 σ11))))))))
theorem fL_isPlanned_c23_s (nn : Nat) (n : Nat) (a1 : Int32) (a2 : Int32) (a5 : Int32) (bs : (Nat → Option (Int32 × Int32))) (rd : (Nat → Int32)) (σ : xSt) : fL_isPlanned_c23 nn (n + 1) a1 a2 a5 bs rd σ = ((if (σ 52 3) ≤ a5 then (xcm (fX11_inPlan σ) σ fun r1 σ2 => (if r1 = a1 then (xcm (fX11_late σ2) σ2 fun r3 σ4 => (if r3 = a2 then fL_isPlanned_c176 nn xFU a2 0 bs rd σ4 else some (0, σ4))) else some (0, σ2))) else (xc2 (fL_bounds a5 σ) fun o5 σ6 => (xbs nn a5 (xl (xbu bs (a5).toNatClampNeg o5) fun bs7 => (xco (fX11_planned a5 σ6) σ6 fun r10 σ11 => (xbs nn a5 (xl (upd rd (a5).toNatClampNeg r10) fun rd12 => (xrow bs7 nn a5 (xrs rd12 nn a5 fun v16 => (if v16 = (-1) then fL_isPlanned_c74 nn (fL_isPlanned_c23 nn n) a1 a2 a5 bs7 rd12 σ11 else some (0, σ11))) fun x13 y14 => fL_isPlanned_c74 nn (fL_isPlanned_c23 nn n) a1 a2 a5 bs7 rd12 σ11)))))))) : Option (Int32 × xSt)) := rfl
def fL_isPlanned (σ : xSt) : Option (Int32 × xSt) := (xsz (σ 52 3) fun nn => fL_isPlanned_c23 nn xF22 0 0 0 (fun _ => none) (fun _ => 0) σ)
abbrev rmL_isPlanned : Room := { frames := 10, cells := 222, slots := 1272, locals := 182 }
set_option maxRecDepth 100000 in
set_option maxHeartbeats 16000000 in
theorem mL_isPlanned {l : Launch} (hl0 : l.stackTraces = false) {E : xE} (hE : xLE E) (σ : xSt) (o1 : Int32) (o2 : xSt) (hf : fL_isPlanned σ = some (o1, o2)) : xLi l yL_isPlanned wsL_isPlanned rmL_isPlanned E [.ref (E.a 52)] σ o1 o2 222 1272 := by
  unfold fL_isPlanned at hf
  refine xLi_of (cc := cL_isPlanned) (maxL := 8) (ret := (some .boolean)) (by decide) rfl (Nat.le_of_ble_eq_true rfl) ?_
  intro p e s m args below meth c A ls ⟨hx, hb, hr, hml, hown, hts, hlk⟩ hA hGL hw hl
  have hG := hGL.1
  have hKA : xKA (E.g.2.2 20) s := hGL.2.2.2.1.2
  have hown : s.vm.findClass RL = some m.cls := hown
  have eF22 : xF22 = 22 := rfl
  have hl : lv_has ls 8 [(0, .ref (E.a 52))] := hl
  have hk143 := hts (.fieldLink RL 143 "OvenRoundLaw" "doughs" "I") (by decide +kernel)
  have hiL : ∀ w ∈ wsL0, w ∈ wsL_isPlanned := by decide +kernel
  have hk10 := hts (.fieldLink RL 10 "OvenRoundLaw" "o" "LOvenRound;") (by decide +kernel)
  have hk160 := hts (.fieldLink RL 160 "OvenRoundLaw" "decks" "I") (by decide +kernel)
  have h176 : ∀ (nn : Nat) (n : Nat) (a2 : Int32) (a5 : Int32) (bs : (Nat → Option (Int32 × Int32))) (rd : (Nat → Int32)) (σ : xSt) (H : Heap) (locs : List Loc) (ls : Array Slot) (nc ns : Nat) (qb qr : Nat) (f : Nat → Option Nat) (rows : va_W), xB E.cA nn bs f rows → xw (xPlus E ((qb, xRef (E.g.2.2 20) nn f) :: (qr, xInts E.cA nn rd) :: rows)) A s.heap s σ H locs → lv_has ls 8 [(0, .ref (E.a 52)), (2, .int a2), (3, .ref qb), (4, .ref qr), (5, .int a5)] → fL_isPlanned_c176 nn n a2 a5 bs rd σ = some (o1, o2) → nc + (0) ≤ 222 → ns + (0) ≤ 1272 → W p l e rmL_isPlanned s m args below meth c H locs nc ns (MQ below (xQi E A o1 o2) args s 222 1272 A) (F0 m 176 ls []) := by
    intro nn n176
    induction n176 with
    | zero => intro a2 a5 bs rd σ H locs ls nc ns qb qr f rows hB hw hl hf hnc hns; exact nomatch hf
    | succ n176 ih176 =>
      have h191 : ∀ (n : Nat) (a2 : Int32) (a5 : Int32) (a6 : Int32) (a7 : Int32) (bs : (Nat → Option (Int32 × Int32))) (rd : (Nat → Int32)) (σ : xSt) (H : Heap) (locs : List Loc) (ls : Array Slot) (nc ns : Nat) (qb qr : Nat) (f : Nat → Option Nat) (rows : va_W), xB E.cA nn bs f rows → xw (xPlus E ((qb, xRef (E.g.2.2 20) nn f) :: (qr, xInts E.cA nn rd) :: rows)) A s.heap s σ H locs → lv_has ls 8 [(0, .ref (E.a 52)), (2, .int a2), (3, .ref qb), (4, .ref qr), (5, .int a5), (6, .int a6), (7, .int a7)] → fL_isPlanned_c191 nn (fL_isPlanned_c176 nn n176) n a2 a5 a6 a7 bs rd σ = some (o1, o2) → nc + (0) ≤ 222 → ns + (0) ≤ 1272 → W p l e rmL_isPlanned s m args below meth c H locs nc ns (MQ below (xQi E A o1 o2) args s 222 1272 A) (F0 m 191 ls []) := by
        intro n191
        induction n191 with
        | zero => intro a2 a5 a6 a7 bs rd σ H locs ls nc ns qb qr f rows hB hw hl hf hnc hns; exact nomatch hf
        | succ n191 ih191 =>
          intro a2 a5 a6 a7 bs rd σ H locs ls nc ns qb qr f rows hB hw hl hf hnc hns
          rw [fL_isPlanned_c191_s] at hf
          refine lv_iload hx hb dL_isPlanned_191 (lv_at hl 6 rfl) ?_
          refine lv_aload_n hx hb dL_isPlanned_193 rfl (lv_at hl 0 rfl) ?_
          refine x_geti hx hb hw (cL52 (xPlus_LE hE)) (own := RL) (ref := RL) (C := RL) (T := TL) (N := 10) hts hiL hown rfl 3 (by decide) hk143 (fun _ h9 => h9) rfl dL_isPlanned_194 ?_
          refine lv_icmp_ge (tgt := 238) hx hb dL_isPlanned_197 (by decide) (fun c197 => ?_) (fun c197 => ?_)
          · replace hf := xif_pos c197 hf
            refine lv_iload hx hb dL_isPlanned_238 (lv_at hl 5 rfl) ?_
            refine lv_aload_n hx hb dL_isPlanned_240 rfl (lv_at hl 0 rfl) ?_
            refine x_geti hx hb hw (cL52 (xPlus_LE hE)) (own := RL) (ref := RL) (C := RL) (T := TL) (N := 10) hts hiL hown rfl 4 (by decide) hk160 (fun _ h9 => h9) rfl dL_isPlanned_241 ?_
            refine lv_icmp_le (tgt := 249) hx hb dL_isPlanned_244 (by decide) (fun c244 => ?_) (fun c244 => ?_)
            · replace hf := xif_pos c244 hf
              obtain ⟨v37, ex⟩ : ∃ y : Int32, y = (a5 + 1) := ⟨_, rfl⟩
              replace hf := xl_f hf v37 ex
              refine lv_iinc (v := v37) (lv' := [(5, .int v37), (0, .ref (E.a 52)), (2, .int a2), (3, .ref qb), (4, .ref qr), (6, .int a6), (7, .int a7)]) hx hb dL_isPlanned_249 hl (k := 4) rfl (by rw [ex]; rfl) (by decide) rfl (fun ls hl => ?_)
              clear ex
              refine lv_goto (tgt := 176) hx hb dL_isPlanned_252 (by decide) ?_
              exact ih176 a2 v37 bs rd σ _ _ _ nc ns _ _ _ _ hB hw (lv_sub hl [1, 2, 3, 4, 0] rfl) hf (by omega) (by omega)
            · replace hf := xif_neg c244 hf
              refine lv_iconst (v := 0) hx hb dL_isPlanned_247 (by decide) ?_
              exact x_Lzretc hx hb hr hlk (xw_drop hw) (by decide) hf (show nc ≤ 222 by omega) (show ns ≤ 1272 by omega) dL_isPlanned_248
          · replace hf := xif_neg c197 hf
            refine lv_aload_n hx hb dL_isPlanned_200 rfl (lv_at hl 2 rfl) ?_
            refine lv_iload hx hb dL_isPlanned_201 (lv_at hl 6 rfl) ?_
            obtain ⟨hin, hf⟩ := xrow_f hf
            refine x_ald hx hb hKA hw (k := 0) rfl hin dL_isPlanned_203 ?_
            rcases xB_at hB hin with ⟨eb, ef⟩ | ⟨x38, y39, q40, eb, ef, em⟩
            · rw [ef]
              replace hf := hf.1 eb
              clear eb ef hin
              refine lv_ifnullN (tgt := 232) hx hb dL_isPlanned_204 (by decide) ?_
              obtain ⟨v41, ex⟩ : ∃ y : Int32, y = (a7 + 1) := ⟨_, rfl⟩
              replace hf := xl_f hf v41 ex
              refine lv_iinc (v := v41) (lv' := [(7, .int v41), (0, .ref (E.a 52)), (2, .int a2), (3, .ref qb), (4, .ref qr), (5, .int a5), (6, .int a6)]) hx hb dL_isPlanned_232 hl (k := 6) rfl (by rw [ex]; rfl) (by decide) rfl (fun ls hl => ?_)
              clear ex
              refine lv_goto (tgt := 191) hx hb dL_isPlanned_235 (by decide) ?_
              exact ih191 a2 a5 a6 v41 bs rd σ _ _ _ nc ns _ _ _ _ hB hw (lv_sub hl [1, 2, 3, 4, 5, 6, 0] rfl) hf (by omega) (by omega)
            · rw [ef]
              replace hf := hf.2 x38 y39 eb
              clear eb ef hin
              refine lv_ifnull hx hb dL_isPlanned_204 ?_
              refine lv_aload hx hb dL_isPlanned_207 (lv_at hl 3 rfl) ?_
              refine lv_iload hx hb dL_isPlanned_209 (lv_at hl 6 rfl) ?_
              obtain ⟨hin, hf⟩ := xrs_f hf
              refine x_rld hx hb hw (List.mem_cons_of_mem _ List.mem_cons_self) hin dL_isPlanned_211 ?_
              refine lv_topi (fun v42 ex => ?_)
              replace hf := hf v42 ex
              clear ex hin
              refine lv_iconst (v := (-1)) hx hb dL_isPlanned_212 (by decide) ?_
              refine lv_icmp_eq (tgt := 232) hx hb dL_isPlanned_213 (by decide) (fun c213 => ?_) (fun c213 => ?_)
              · replace hf := xif_pos c213 hf
                obtain ⟨v43, ex⟩ : ∃ y : Int32, y = (a7 + 1) := ⟨_, rfl⟩
                replace hf := xl_f hf v43 ex
                refine lv_iinc (v := v43) (lv' := [(7, .int v43), (0, .ref (E.a 52)), (2, .int a2), (3, .ref qb), (4, .ref qr), (5, .int a5), (6, .int a6)]) hx hb dL_isPlanned_232 hl (k := 6) rfl (by rw [ex]; rfl) (by decide) rfl (fun ls hl => ?_)
                clear ex
                refine lv_goto (tgt := 191) hx hb dL_isPlanned_235 (by decide) ?_
                exact ih191 a2 a5 a6 v43 bs rd σ _ _ _ nc ns _ _ _ _ hB hw (lv_sub hl [1, 2, 3, 4, 5, 6, 0] rfl) hf (by omega) (by omega)
              · replace hf := xif_neg c213 hf
                refine lv_aload hx hb dL_isPlanned_216 (lv_at hl 3 rfl) ?_
                refine lv_iload hx hb dL_isPlanned_218 (lv_at hl 6 rfl) ?_
                obtain ⟨hin, hf⟩ := xrs_f hf
                refine x_rld hx hb hw (List.mem_cons_of_mem _ List.mem_cons_self) hin dL_isPlanned_220 ?_
                refine lv_topi (fun v44 ex => ?_)
                replace hf := hf v44 ex
                clear ex hin
                refine lv_aload hx hb dL_isPlanned_221 (lv_at hl 3 rfl) ?_
                refine lv_iload hx hb dL_isPlanned_223 (lv_at hl 4 rfl) ?_
                obtain ⟨hin, hf⟩ := xrs_f hf
                refine x_rld hx hb hw (List.mem_cons_of_mem _ List.mem_cons_self) hin dL_isPlanned_225 ?_
                refine lv_topi (fun v45 ex => ?_)
                replace hf := hf v45 ex
                clear ex hin
                refine lv_icmp_ne (tgt := 232) hx hb dL_isPlanned_226 (by decide) (fun c226 => ?_) (fun c226 => ?_)
                · replace hf := xif_neg c226 hf
                  obtain ⟨v46, ex⟩ : ∃ y : Int32, y = (a7 + 1) := ⟨_, rfl⟩
                  replace hf := xl_f hf v46 ex
                  refine lv_iinc (v := v46) (lv' := [(7, .int v46), (0, .ref (E.a 52)), (2, .int a2), (3, .ref qb), (4, .ref qr), (5, .int a5), (6, .int a6)]) hx hb dL_isPlanned_232 hl (k := 6) rfl (by rw [ex]; rfl) (by decide) rfl (fun ls hl => ?_)
                  clear ex
                  refine lv_goto (tgt := 191) hx hb dL_isPlanned_235 (by decide) ?_
                  exact ih191 a2 a5 a6 v46 bs rd σ _ _ _ nc ns _ _ _ _ hB hw (lv_sub hl [1, 2, 3, 4, 5, 6, 0] rfl) hf (by omega) (by omega)
                · replace hf := xif_pos c226 hf
                  obtain ⟨v47, ex⟩ : ∃ y : Int32, y = (a6 + 1) := ⟨_, rfl⟩
                  replace hf := xl_f hf v47 ex
                  refine lv_iinc (v := v47) (lv' := [(6, .int v47), (0, .ref (E.a 52)), (2, .int a2), (3, .ref qb), (4, .ref qr), (5, .int a5), (7, .int a7)]) hx hb dL_isPlanned_229 hl (k := 5) rfl (by rw [ex]; rfl) (by decide) rfl (fun ls hl => ?_)
                  clear ex
                  obtain ⟨v48, ex⟩ : ∃ y : Int32, y = (a7 + 1) := ⟨_, rfl⟩
                  replace hf := xl_f hf v48 ex
                  refine lv_iinc (v := v48) (lv' := [(7, .int v48), (6, .int v47), (0, .ref (E.a 52)), (2, .int a2), (3, .ref qb), (4, .ref qr), (5, .int a5)]) hx hb dL_isPlanned_232 hl (k := 6) rfl (by rw [ex]; rfl) (by decide) rfl (fun ls hl => ?_)
                  clear ex
                  refine lv_goto (tgt := 191) hx hb dL_isPlanned_235 (by decide) ?_
                  exact ih191 a2 a5 v47 v48 bs rd σ _ _ _ nc ns _ _ _ _ hB hw (lv_sub hl [2, 3, 4, 5, 6, 1, 0] rfl) hf (by omega) (by omega)
      intro a2 a5 bs rd σ H locs ls nc ns qb qr f rows hB hw hl hf hnc hns
      rw [fL_isPlanned_c176_s] at hf
      refine lv_iload hx hb dL_isPlanned_176 (lv_at hl 4 rfl) ?_
      refine lv_aload_n hx hb dL_isPlanned_178 rfl (lv_at hl 0 rfl) ?_
      refine x_geti hx hb hw (cL52 (xPlus_LE hE)) (own := RL) (ref := RL) (C := RL) (T := TL) (N := 10) hts hiL hown rfl 3 (by decide) hk143 (fun _ h9 => h9) rfl dL_isPlanned_179 ?_
      refine lv_icmp_ge (tgt := 255) hx hb dL_isPlanned_182 (by decide) (fun c182 => ?_) (fun c182 => ?_)
      · replace hf := xif_pos c182 hf
        refine lv_iload_n hx hb dL_isPlanned_255 rfl (lv_at hl 1 rfl) ?_
        refine lv_if_eq (tgt := 267) hx hb dL_isPlanned_256 (by decide) (fun c256 => ?_) (fun c256 => ?_)
        · replace hf := xif_pos c256 hf
          refine lv_iconst (v := 1) hx hb dL_isPlanned_267 (by decide) ?_
          refine lv_goto (tgt := 272) hx hb dL_isPlanned_268 (by decide) ?_
          exact x_Lzretc hx hb hr hlk (xw_drop hw) (by decide) hf (show nc ≤ 222 by omega) (show ns ≤ 1272 by omega) dL_isPlanned_272
        · replace hf := xif_neg c256 hf
          refine lv_aload_n hx hb dL_isPlanned_259 rfl (lv_at hl 0 rfl) ?_
          refine lv_aload_n hx hb dL_isPlanned_260 rfl (lv_at hl 2 rfl) ?_
          obtain ⟨r35, σ36, hcl, hf⟩ := xc2_f hf
          refine x_callLi (va_runV (As := [.ref qb]) (rest := []) ⟨hx, hb, hml, hown, hts⟩ (mL_isCrowded hl0 hE nn bs qb qr f rd rows hB σ r35 σ36 hcl H.size) (cwV 1 hts gL_isPlanned_L_isCrowded rfl rfl rfl (by decide +kernel) ⟨Nat.le_of_ble_eq_true rfl, Nat.le_of_ble_eq_true rfl⟩) (x_preLV _ hw hA hGL (cL52 (xPlus_LE hE)) rfl) rfl rfl hl.1 rfl (lv_room (Nat.le_of_ble_eq_true rfl)) dL_isPlanned_261 ⟨show nc + 0 ≤ 222 by omega, show ns + 0 ≤ 1272 by omega⟩) hw hA (fun H locs hw => ?_)
          clear hcl
          refine lv_if_eq (tgt := 271) hx hb dL_isPlanned_264 (by decide) (fun c264 => ?_) (fun c264 => ?_)
          · replace hf := xif_pos c264 hf
            refine lv_iconst (v := 0) hx hb dL_isPlanned_271 (by decide) ?_
            exact x_Lzretc hx hb hr hlk (xw_drop hw) (by decide) hf (show (nc + 0) ≤ 222 by omega) (show (ns + 0) ≤ 1272 by omega) dL_isPlanned_272
          · replace hf := xif_neg c264 hf
            refine lv_iconst (v := 1) hx hb dL_isPlanned_267 (by decide) ?_
            refine lv_goto (tgt := 272) hx hb dL_isPlanned_268 (by decide) ?_
            exact x_Lzretc hx hb hr hlk (xw_drop hw) (by decide) hf (show (nc + 0) ≤ 222 by omega) (show (ns + 0) ≤ 1272 by omega) dL_isPlanned_272
      · replace hf := xif_neg c182 hf
        refine lv_iconst (v := 0) hx hb dL_isPlanned_185 (by decide) ?_
        refine lv_istore (lv' := [(6, .int 0), (0, .ref (E.a 52)), (2, .int a2), (3, .ref qb), (4, .ref qr), (5, .int a5)]) hx hb dL_isPlanned_186 hl (by decide) rfl (fun ls hl => ?_)
        refine lv_iconst (v := 0) hx hb dL_isPlanned_188 (by decide) ?_
        refine lv_istore (lv' := [(7, .int 0), (6, .int 0), (0, .ref (E.a 52)), (2, .int a2), (3, .ref qb), (4, .ref qr), (5, .int a5)]) hx hb dL_isPlanned_189 hl (by decide) rfl (fun ls hl => ?_)
        exact h191 xFU a2 a5 0 0 bs rd σ _ _ _ nc ns _ _ _ _ hB hw (lv_sub hl [2, 3, 4, 5, 6, 1, 0] rfl) hf (by omega) (by omega)
  have h23 : ∀ (nn : Nat) (n : Nat) (a1 : Int32) (a2 : Int32) (a5 : Int32) (bs : (Nat → Option (Int32 × Int32))) (rd : (Nat → Int32)) (σ : xSt) (H : Heap) (locs : List Loc) (ls : Array Slot) (nc ns : Nat) (qb qr : Nat) (f : Nat → Option Nat) (rows : va_W), xB E.cA nn bs f rows → xw (xPlus E ((qb, xRef (E.g.2.2 20) nn f) :: (qr, xInts E.cA nn rd) :: rows)) A s.heap s σ H locs → lv_has ls 8 [(0, .ref (E.a 52)), (1, .int a1), (2, .int a2), (3, .ref qb), (4, .ref qr), (5, .int a5)] → fL_isPlanned_c23 nn n a1 a2 a5 bs rd σ = some (o1, o2) → nc + (0 + 10 * n) ≤ 222 → ns + (0 + 56 * n) ≤ 1272 → W p l e rmL_isPlanned s m args below meth c H locs nc ns (MQ below (xQi E A o1 o2) args s 222 1272 A) (F0 m 23 ls []) := by
    intro nn n23
    induction n23 with
    | zero => intro a1 a2 a5 bs rd σ H locs ls nc ns qb qr f rows hB hw hl hf hnc hns; exact nomatch hf
    | succ n23 ih23 =>
      have h74 : ∀ (a1 : Int32) (a2 : Int32) (a5 : Int32) (bs : (Nat → Option (Int32 × Int32))) (rd : (Nat → Int32)) (σ : xSt) (H : Heap) (locs : List Loc) (ls : Array Slot) (nc ns : Nat) (qb qr : Nat) (f : Nat → Option Nat) (rows : va_W), xB E.cA nn bs f rows → xw (xPlus E ((qb, xRef (E.g.2.2 20) nn f) :: (qr, xInts E.cA nn rd) :: rows)) A s.heap s σ H locs → lv_has ls 8 [(0, .ref (E.a 52)), (1, .int a1), (2, .int a2), (3, .ref qb), (4, .ref qr), (5, .int a5)] → fL_isPlanned_c74 nn (fL_isPlanned_c23 nn n23) a1 a2 a5 bs rd σ = some (o1, o2) → nc + (0 + 10 * n23) ≤ 222 → ns + (0 + 56 * n23) ≤ 1272 → W p l e rmL_isPlanned s m args below meth c H locs nc ns (MQ below (xQi E A o1 o2) args s 222 1272 A) (F0 m 74 ls []) := by
        intro a1 a2 a5 bs rd σ H locs ls nc ns qb qr f rows hB hw hl hf hnc hns
        unfold fL_isPlanned_c74 at hf
        refine lv_aload_n hx hb dL_isPlanned_74 rfl (lv_at hl 3 rfl) ?_
        refine lv_iload hx hb dL_isPlanned_75 (lv_at hl 5 rfl) ?_
        obtain ⟨hin, hf⟩ := xrow_f hf
        refine x_ald hx hb hKA hw (k := 0) rfl hin dL_isPlanned_77 ?_
        rcases xB_at hB hin with ⟨eb, ef⟩ | ⟨x17, y18, q19, eb, ef, em⟩
        · rw [ef]
          replace hf := hf.1 eb
          clear eb ef hin
          refine lv_ifnonnullN hx hb dL_isPlanned_78 ?_
          refine lv_goto (tgt := 143) hx hb dL_isPlanned_81 (by decide) ?_
          obtain ⟨v20, ex⟩ : ∃ y : Int32, y = (a5 + 1) := ⟨_, rfl⟩
          replace hf := xl_f hf v20 ex
          refine lv_iinc (v := v20) (lv' := [(5, .int v20), (0, .ref (E.a 52)), (1, .int a1), (2, .int a2), (3, .ref qb), (4, .ref qr)]) hx hb dL_isPlanned_143 hl (k := 5) rfl (by rw [ex]; rfl) (by decide) rfl (fun ls hl => ?_)
          clear ex
          refine lv_goto (tgt := 23) hx hb dL_isPlanned_146 (by decide) ?_
          exact ih23 a1 a2 v20 bs rd σ _ _ _ nc ns _ _ _ _ hB hw (lv_sub hl [1, 2, 3, 4, 5, 0] rfl) hf (by omega) (by omega)
        · rw [ef]
          replace hf := hf.2 x17 y18 eb
          clear eb ef hin
          refine lv_ifnonnull (tgt := 84) hx hb dL_isPlanned_78 (by decide) ?_
          obtain ⟨v21, ex⟩ : ∃ y : Int32, y = (a1 + 1) := ⟨_, rfl⟩
          replace hf := xl_f hf v21 ex
          refine lv_iinc (v := v21) (lv' := [(1, .int v21), (0, .ref (E.a 52)), (2, .int a2), (3, .ref qb), (4, .ref qr), (5, .int a5)]) hx hb dL_isPlanned_84 hl (k := 1) rfl (by rw [ex]; rfl) (by decide) rfl (fun ls hl => ?_)
          clear ex
          refine lv_aload hx hb dL_isPlanned_87 (lv_at hl 4 rfl) ?_
          refine lv_iload hx hb dL_isPlanned_89 (lv_at hl 5 rfl) ?_
          obtain ⟨hin, hf⟩ := xrs_f hf
          refine x_rld hx hb hw (List.mem_cons_of_mem _ List.mem_cons_self) hin dL_isPlanned_91 ?_
          refine lv_topi (fun v22 ex => ?_)
          replace hf := hf v22 ex
          clear ex hin
          refine lv_iconst (v := (-1)) hx hb dL_isPlanned_92 (by decide) ?_
          refine lv_icmp_ne (tgt := 102) hx hb dL_isPlanned_93 (by decide) (fun c93 => ?_) (fun c93 => ?_)
          · replace hf := xif_neg c93 hf
            refine lv_aload hx hb dL_isPlanned_102 (lv_at hl 4 rfl) ?_
            refine lv_iload hx hb dL_isPlanned_104 (lv_at hl 5 rfl) ?_
            obtain ⟨hin, hf⟩ := xrs_f hf
            refine x_rld hx hb hw (List.mem_cons_of_mem _ List.mem_cons_self) hin dL_isPlanned_106 ?_
            refine lv_topi (fun v23 ex => ?_)
            replace hf := hf v23 ex
            clear ex hin
            refine lv_bipush (v := 10) hx hb dL_isPlanned_107 (by decide) ?_
            refine lv_irem hx hb dL_isPlanned_109 (by decide) ?_
            refine lv_if_ne (tgt := 141) hx hb dL_isPlanned_110 (by decide) (fun c110 => ?_) (fun c110 => ?_)
            · replace hf := xif_neg c110 hf
              refine lv_iconst (v := 0) hx hb dL_isPlanned_141 (by decide) ?_
              exact x_Lzretc hx hb hr hlk (xw_drop hw) (by decide) hf (show nc ≤ 222 by omega) (show ns ≤ 1272 by omega) dL_isPlanned_142
            · replace hf := xif_pos c110 hf
              refine lv_aload hx hb dL_isPlanned_113 (lv_at hl 4 rfl) ?_
              refine lv_iload hx hb dL_isPlanned_115 (lv_at hl 5 rfl) ?_
              obtain ⟨hin, hf⟩ := xrs_f hf
              refine x_rld hx hb hw (List.mem_cons_of_mem _ List.mem_cons_self) hin dL_isPlanned_117 ?_
              refine lv_topi (fun v24 ex => ?_)
              replace hf := hf v24 ex
              clear ex hin
              refine lv_aload_n hx hb dL_isPlanned_118 rfl (lv_at hl 3 rfl) ?_
              refine lv_iload hx hb dL_isPlanned_119 (lv_at hl 5 rfl) ?_
              obtain ⟨hin, hf⟩ := xrow_f hf
              refine x_ald hx hb hKA hw (k := 0) rfl hin dL_isPlanned_121 ?_
              rcases xB_at hB hin with ⟨eb, ef⟩ | ⟨x25, y26, q27, eb, ef, em⟩
              · rw [ef]
                replace hf := hf.1 eb
                clear eb ef hin
                refine lv_iconst (v := 0) hx hb dL_isPlanned_122 (by decide) ?_
                exact nomatch hf
              · rw [ef]
                replace hf := hf.2 x25 y26 eb
                clear eb ef hin
                refine lv_iconst (v := 0) hx hb dL_isPlanned_122 (by decide) ?_
                refine x_rld hx hb hw (List.mem_cons_of_mem _ (List.mem_cons_of_mem _ em)) (i := 0) (xin_vp (by decide)) dL_isPlanned_123 ?_
                refine W.eq (g2 := F0 m 124 ls (.int x25 :: [.int v24])) (by rfl) ?_
                refine lv_icmp_lt (tgt := 141) hx hb dL_isPlanned_124 (by decide) (fun c124 => ?_) (fun c124 => ?_)
                · replace hf := xif_pos c124 hf
                  refine lv_iconst (v := 0) hx hb dL_isPlanned_141 (by decide) ?_
                  exact x_Lzretc hx hb hr hlk (xw_drop hw) (by decide) hf (show nc ≤ 222 by omega) (show ns ≤ 1272 by omega) dL_isPlanned_142
                · replace hf := xif_neg c124 hf
                  refine lv_aload hx hb dL_isPlanned_127 (lv_at hl 4 rfl) ?_
                  refine lv_iload hx hb dL_isPlanned_129 (lv_at hl 5 rfl) ?_
                  obtain ⟨hin, hf⟩ := xrs_f hf
                  refine x_rld hx hb hw (List.mem_cons_of_mem _ List.mem_cons_self) hin dL_isPlanned_131 ?_
                  refine lv_topi (fun v28 ex => ?_)
                  replace hf := hf v28 ex
                  clear ex hin
                  refine lv_aload_n hx hb dL_isPlanned_132 rfl (lv_at hl 3 rfl) ?_
                  refine lv_iload hx hb dL_isPlanned_133 (lv_at hl 5 rfl) ?_
                  obtain ⟨hin, hf⟩ := xrow_f hf
                  refine x_ald hx hb hKA hw (k := 0) rfl hin dL_isPlanned_135 ?_
                  rcases xB_at hB hin with ⟨eb, ef⟩ | ⟨x29, y30, q31, eb, ef, em⟩
                  · rw [ef]
                    replace hf := hf.1 eb
                    clear eb ef hin
                    refine lv_iconst (v := 1) hx hb dL_isPlanned_136 (by decide) ?_
                    exact nomatch hf
                  · rw [ef]
                    replace hf := hf.2 x29 y30 eb
                    clear eb ef hin
                    refine lv_iconst (v := 1) hx hb dL_isPlanned_136 (by decide) ?_
                    refine x_rld hx hb hw (List.mem_cons_of_mem _ (List.mem_cons_of_mem _ em)) (i := 1) (xin_vp (by decide)) dL_isPlanned_137 ?_
                    refine W.eq (g2 := F0 m 138 ls (.int y30 :: [.int v28])) (by rfl) ?_
                    refine lv_icmp_le (tgt := 143) hx hb dL_isPlanned_138 (by decide) (fun c138 => ?_) (fun c138 => ?_)
                    · replace hf := xif_pos c138 hf
                      obtain ⟨v32, ex⟩ : ∃ y : Int32, y = (a5 + 1) := ⟨_, rfl⟩
                      replace hf := xl_f hf v32 ex
                      refine lv_iinc (v := v32) (lv' := [(5, .int v32), (1, .int v21), (0, .ref (E.a 52)), (2, .int a2), (3, .ref qb), (4, .ref qr)]) hx hb dL_isPlanned_143 hl (k := 5) rfl (by rw [ex]; rfl) (by decide) rfl (fun ls hl => ?_)
                      clear ex
                      refine lv_goto (tgt := 23) hx hb dL_isPlanned_146 (by decide) ?_
                      exact ih23 v21 a2 v32 bs rd σ _ _ _ nc ns _ _ _ _ hB hw (lv_sub hl [2, 1, 3, 4, 5, 0] rfl) hf (by omega) (by omega)
                    · replace hf := xif_neg c138 hf
                      refine lv_iconst (v := 0) hx hb dL_isPlanned_141 (by decide) ?_
                      exact x_Lzretc hx hb hr hlk (xw_drop hw) (by decide) hf (show nc ≤ 222 by omega) (show ns ≤ 1272 by omega) dL_isPlanned_142
          · replace hf := xif_pos c93 hf
            obtain ⟨v33, ex⟩ : ∃ y : Int32, y = (a2 + 1) := ⟨_, rfl⟩
            replace hf := xl_f hf v33 ex
            refine lv_iinc (v := v33) (lv' := [(2, .int v33), (1, .int v21), (0, .ref (E.a 52)), (3, .ref qb), (4, .ref qr), (5, .int a5)]) hx hb dL_isPlanned_96 hl (k := 2) rfl (by rw [ex]; rfl) (by decide) rfl (fun ls hl => ?_)
            clear ex
            refine lv_goto (tgt := 143) hx hb dL_isPlanned_99 (by decide) ?_
            obtain ⟨v34, ex⟩ : ∃ y : Int32, y = (a5 + 1) := ⟨_, rfl⟩
            replace hf := xl_f hf v34 ex
            refine lv_iinc (v := v34) (lv' := [(5, .int v34), (2, .int v33), (1, .int v21), (0, .ref (E.a 52)), (3, .ref qb), (4, .ref qr)]) hx hb dL_isPlanned_143 hl (k := 5) rfl (by rw [ex]; rfl) (by decide) rfl (fun ls hl => ?_)
            clear ex
            refine lv_goto (tgt := 23) hx hb dL_isPlanned_146 (by decide) ?_
            exact ih23 v21 v33 v34 bs rd σ _ _ _ nc ns _ _ _ _ hB hw (lv_sub hl [3, 2, 1, 4, 5, 0] rfl) hf (by omega) (by omega)
      intro a1 a2 a5 bs rd σ H locs ls nc ns qb qr f rows hB hw hl hf hnc hns
      rw [fL_isPlanned_c23_s] at hf
      refine lv_iload hx hb dL_isPlanned_23 (lv_at hl 5 rfl) ?_
      refine lv_aload_n hx hb dL_isPlanned_25 rfl (lv_at hl 0 rfl) ?_
      refine x_geti hx hb hw (cL52 (xPlus_LE hE)) (own := RL) (ref := RL) (C := RL) (T := TL) (N := 10) hts hiL hown rfl 3 (by decide) hk143 (fun _ h9 => h9) rfl dL_isPlanned_26 ?_
      refine lv_icmp_ge (tgt := 149) hx hb dL_isPlanned_29 (by decide) (fun c29 => ?_) (fun c29 => ?_)
      · replace hf := xif_pos c29 hf
        refine lv_aload_n hx hb dL_isPlanned_149 rfl (lv_at hl 0 rfl) ?_
        refine x_getr hx hb hw (cL52 (xPlus_LE hE)) (own := RL) (ref := RL) (C := RL) (T := TL) (N := 10) hts hiL hown rfl 0 (by decide) hk10 (fun _ h9 => h9) rfl dL_isPlanned_150 ?_
        obtain ⟨r1, τ9, hcl, hf⟩ := xcm_g hf
        refine x_calli (va_runV (As := []) (rest := []) ⟨hx, hb, hml, hown, hts⟩ (mX11_inPlan (E := xCut (xPlus E ((qb, xRef (E.g.2.2 20) nn f) :: (qr, xInts E.cA nn rd) :: rows)) σ) rfl  σ r1 τ9 hcl H.size) (cwV 0 hts gL_isPlanned_X11_inPlan rfl rfl rfl (by decide +kernel) ⟨Nat.le_of_ble_eq_true rfl, Nat.le_of_ble_eq_true rfl⟩) (x_preV _ (xw_cut (xPlus_LE hE) hw) hA hG (cX0 (E := xCut (xPlus E ((qb, xRef (E.g.2.2 20) nn f) :: (qr, xInts E.cA nn rd) :: rows)) σ) rfl) rfl) rfl rfl hl.1 rfl (lv_room (Nat.le_of_ble_eq_true rfl)) dL_isPlanned_153 ⟨show nc + 0 ≤ 222 by omega, show ns + 0 ≤ 1272 by omega⟩) (xw_cut (xPlus_LE hE) hw) hA (fun H locs hw => ?_)
        obtain ⟨σ2, eρ, hw⟩ := xw_unc2 (xPlus_LE hE) hw
        replace hf := hf σ2 eρ
        clear eρ hcl
        refine lv_iload_n hx hb dL_isPlanned_156 rfl (lv_at hl 1 rfl) ?_
        refine lv_icmp_ne (tgt := 171) hx hb dL_isPlanned_157 (by decide) (fun c157 => ?_) (fun c157 => ?_)
        · replace hf := xif_neg c157 hf
          refine lv_iconst (v := 0) hx hb dL_isPlanned_171 (by decide) ?_
          exact x_Lzretc hx hb hr hlk (xw_drop hw) (by decide) hf (show nc ≤ 222 by omega) (show ns ≤ 1272 by omega) dL_isPlanned_172
        · replace hf := xif_pos c157 hf
          refine lv_aload_n hx hb dL_isPlanned_160 rfl (lv_at hl 0 rfl) ?_
          refine x_getr hx hb hw (cL52 (xPlus_LE hE)) (own := RL) (ref := RL) (C := RL) (T := TL) (N := 10) hts hiL hown rfl 0 (by decide) hk10 (fun _ h9 => h9) rfl dL_isPlanned_161 ?_
          obtain ⟨r3, τ9, hcl, hf⟩ := xcm_g hf
          refine x_calli (va_runV (As := []) (rest := []) ⟨hx, hb, hml, hown, hts⟩ (mX11_late (E := xCut (xPlus E ((qb, xRef (E.g.2.2 20) nn f) :: (qr, xInts E.cA nn rd) :: rows)) σ2) rfl  σ2 r3 τ9 hcl H.size) (cwV 0 hts gL_isPlanned_X11_late rfl rfl rfl (by decide +kernel) ⟨Nat.le_of_ble_eq_true rfl, Nat.le_of_ble_eq_true rfl⟩) (x_preV _ (xw_cut (xPlus_LE hE) hw) hA hG (cX0 (E := xCut (xPlus E ((qb, xRef (E.g.2.2 20) nn f) :: (qr, xInts E.cA nn rd) :: rows)) σ2) rfl) rfl) rfl rfl hl.1 rfl (lv_room (Nat.le_of_ble_eq_true rfl)) dL_isPlanned_164 ⟨show nc + 0 ≤ 222 by omega, show ns + 0 ≤ 1272 by omega⟩) (xw_cut (xPlus_LE hE) hw) hA (fun H locs hw => ?_)
          obtain ⟨σ4, eρ, hw⟩ := xw_unc2 (xPlus_LE hE) hw
          replace hf := hf σ4 eρ
          clear eρ hcl
          refine lv_iload_n hx hb dL_isPlanned_167 rfl (lv_at hl 2 rfl) ?_
          refine lv_icmp_eq (tgt := 173) hx hb dL_isPlanned_168 (by decide) (fun c168 => ?_) (fun c168 => ?_)
          · replace hf := xif_pos c168 hf
            refine lv_iconst (v := 0) hx hb dL_isPlanned_173 (by decide) ?_
            refine lv_istore (lv' := [(5, .int 0), (0, .ref (E.a 52)), (1, .int a1), (2, .int a2), (3, .ref qb), (4, .ref qr)]) hx hb dL_isPlanned_174 hl (by decide) rfl (fun ls hl => ?_)
            exact h176 nn xFU a2 0 bs rd σ4 _ _ _ nc ns _ _ _ _ hB hw (lv_sub hl [1, 3, 4, 5, 0] rfl) hf (by omega) (by omega)
          · replace hf := xif_neg c168 hf
            refine lv_iconst (v := 0) hx hb dL_isPlanned_171 (by decide) ?_
            exact x_Lzretc hx hb hr hlk (xw_drop hw) (by decide) hf (show nc ≤ 222 by omega) (show ns ≤ 1272 by omega) dL_isPlanned_172
      · replace hf := xif_neg c29 hf
        refine lv_aload_n hx hb dL_isPlanned_32 rfl (lv_at hl 3 rfl) ?_
        refine lv_iload hx hb dL_isPlanned_33 (lv_at hl 5 rfl) ?_
        refine lv_aload_n hx hb dL_isPlanned_35 rfl (lv_at hl 0 rfl) ?_
        refine lv_iload hx hb dL_isPlanned_36 (lv_at hl 5 rfl) ?_
        obtain ⟨o5, σ6, hcl, hf⟩ := xc2_f hf
        obtain ⟨hin, hf⟩ := xbs_e hf
        obtain ⟨bs7, ex⟩ : ∃ r9 : Nat → Option (Int32 × Int32), r9 = xbu bs (a5).toNatClampNeg o5 := ⟨_, rfl⟩
        replace hf := xl_f hf bs7 ex
        suffices K : ∀ (f8 : Nat → Option Nat) (rows9 : va_W) (H : Heap) (locs : List Loc), xB E.cA nn bs7 f8 rows9 → xw (xPlus E ((qb, xRef (E.g.2.2 20) nn f8) :: (qr, xInts E.cA nn rd) :: rows9)) A s.heap s σ6 H locs → W p l e rmL_isPlanned s m args below meth c H locs (nc + 9) (ns + 50) (MQ below (xQi E A o1 o2) args s 222 1272 A) (F0 m 42 ls []) by
          refine x_callB (va_runV (As := [.int a5]) (rest := [.int a5, .ref qb]) ⟨hx, hb, hml, hown, hts⟩ (mL_bounds hl0 (xPlus_LE hE) a5 σ o5 σ6 hcl H.size) (cwV 1 hts gL_isPlanned_L_bounds rfl rfl rfl (by decide +kernel) ⟨Nat.le_of_ble_eq_true rfl, Nat.le_of_ble_eq_true rfl⟩) (x_preLV _ hw hA hGL (cL52 (xPlus_LE hE)) rfl) rfl rfl hl.1 rfl (lv_room (Nat.le_of_ble_eq_true rfl)) dL_isPlanned_38 ⟨show nc + 9 ≤ 222 by omega, show ns + 50 ≤ 1272 by omega⟩) hw hA (fun H locs ho hw => ?_) (fun q x y H locs ho hw => ?_)
          · refine x_asn hx hb hKA hw (k := 0) rfl hin dL_isPlanned_41 (fun H locs hw => ?_)
            exact K _ rows H locs (by rw [ex, ho]; exact xB_none hB _) hw
          · rw [xPlus_plus] at hw
            refine x_ast hx hb hKA hw (k := 0) rfl (List.mem_append_right _ List.mem_cons_self) hin dL_isPlanned_41 (fun H locs hw => ?_)
            exact K (va_up f (a5).toNatClampNeg (some q)) (rows ++ [(q, xInts E.cA 2 (upd (upd (fun _ => 0) 0 x) 1 y))]) H locs (by rw [ex, ho]; exact xB_some hB _ x y q) hw
        intro f8 rows9 H locs hB hw
        clear hcl hin ex
        refine lv_aload hx hb dL_isPlanned_42 (lv_at hl 4 rfl) ?_
        refine lv_iload hx hb dL_isPlanned_44 (lv_at hl 5 rfl) ?_
        refine lv_aload_n hx hb dL_isPlanned_46 rfl (lv_at hl 0 rfl) ?_
        refine x_getr hx hb hw (cL52 (xPlus_LE hE)) (own := RL) (ref := RL) (C := RL) (T := TL) (N := 10) hts hiL hown rfl 0 (by decide) hk10 (fun _ h9 => h9) rfl dL_isPlanned_47 ?_
        refine lv_iload hx hb dL_isPlanned_50 (lv_at hl 5 rfl) ?_
        obtain ⟨r10, τ9, hcl, hf⟩ := xco_g hf
        refine x_tcallo (vx_runV (As := [.int a5]) (rest := [.int a5, .ref qr]) ⟨hx, hb, hml, hown, hts⟩ (mX11_planned hl0 (E := xCut (xPlus E ((qb, xRef (E.g.2.2 20) nn f8) :: (qr, xInts E.cA nn rd) :: rows9)) σ6) rfl a5 σ6 (.inl r10) τ9 hcl H.size) (cwV 1 hts gL_isPlanned_X11_planned rfl rfl rfl (by decide +kernel) ⟨Nat.le_of_ble_eq_true rfl, Nat.le_of_ble_eq_true rfl⟩) (x_preV _ (xw_cut (xPlus_LE hE) hw) hA hG (cX0 (E := xCut (xPlus E ((qb, xRef (E.g.2.2 20) nn f8) :: (qr, xInts E.cA nn rd) :: rows9)) σ6) rfl) rfl) rfl rfl hl.1 rfl (lv_room (Nat.le_of_ble_eq_true rfl)) dL_isPlanned_52 ⟨show (nc + 9) + 1 ≤ 222 by omega, show (ns + 50) + 6 ≤ 1272 by omega⟩) (xw_cut (xPlus_LE hE) hw) hA (fun H locs hw => ?_)
        obtain ⟨σ11, eρ, hw⟩ := xw_unc2 (xPlus_LE hE) hw
        replace hf := hf σ11 eρ
        clear eρ hcl
        obtain ⟨hin, hf⟩ := xbs_e hf
        refine x_rst hx hb hw (k := 1) rfl hin dL_isPlanned_55 (fun H locs hw => ?_)
        obtain ⟨rd12, ex⟩ : ∃ r9 : Nat → Int32, r9 = upd rd (a5).toNatClampNeg r10 := ⟨_, rfl⟩
        replace hf := xl_f hf rd12 ex
        have hw : xw (xPlus E ((qb, xRef (E.g.2.2 20) nn f8) :: (qr, xInts E.cA nn rd12) :: rows9)) A s.heap s σ11 H locs := by rw [ex]; exact hw
        clear ex hin
        refine lv_aload_n hx hb dL_isPlanned_56 rfl (lv_at hl 3 rfl) ?_
        refine lv_iload hx hb dL_isPlanned_57 (lv_at hl 5 rfl) ?_
        obtain ⟨hin, hf⟩ := xrow_f hf
        refine x_ald hx hb hKA hw (k := 0) rfl hin dL_isPlanned_59 ?_
        rcases xB_at hB hin with ⟨eb, ef⟩ | ⟨x13, y14, q15, eb, ef, em⟩
        · rw [ef]
          replace hf := hf.1 eb
          clear eb ef hin
          refine lv_ifnonnullN hx hb dL_isPlanned_60 ?_
          refine lv_aload hx hb dL_isPlanned_63 (lv_at hl 4 rfl) ?_
          refine lv_iload hx hb dL_isPlanned_65 (lv_at hl 5 rfl) ?_
          obtain ⟨hin, hf⟩ := xrs_f hf
          refine x_rld hx hb hw (List.mem_cons_of_mem _ List.mem_cons_self) hin dL_isPlanned_67 ?_
          refine lv_topi (fun v16 ex => ?_)
          replace hf := hf v16 ex
          clear ex hin
          refine lv_iconst (v := (-1)) hx hb dL_isPlanned_68 (by decide) ?_
          refine lv_icmp_eq (tgt := 74) hx hb dL_isPlanned_69 (by decide) (fun c69 => ?_) (fun c69 => ?_)
          · replace hf := xif_pos c69 hf
            exact h74 a1 a2 a5 bs7 rd12 σ11 _ _ _ ((nc + 9) + 1) ((ns + 50) + 6) _ _ _ _ hB hw (lv_sub hl [0, 1, 2, 3, 4, 5] rfl) hf (by omega) (by omega)
          · replace hf := xif_neg c69 hf
            refine lv_iconst (v := 0) hx hb dL_isPlanned_72 (by decide) ?_
            exact x_Lzretc hx hb hr hlk (xw_drop hw) (by decide) hf (show ((nc + 9) + 1) ≤ 222 by omega) (show ((ns + 50) + 6) ≤ 1272 by omega) dL_isPlanned_73
        · rw [ef]
          replace hf := hf.2 x13 y14 eb
          clear eb ef hin
          refine lv_ifnonnull (tgt := 74) hx hb dL_isPlanned_60 (by decide) ?_
          exact h74 a1 a2 a5 bs7 rd12 σ11 _ _ _ ((nc + 9) + 1) ((ns + 50) + 6) _ _ _ _ hB hw (lv_sub hl [0, 1, 2, 3, 4, 5] rfl) hf (by omega) (by omega)
  refine lv_iconst (v := 0) hx hb dL_isPlanned_0 (by decide) ?_
  refine lv_istore_n (lv' := [(1, .int 0), (0, .ref (E.a 52))]) hx hb dL_isPlanned_1 rfl hl (by decide) rfl (fun ls hl => ?_)
  refine lv_iconst (v := 0) hx hb dL_isPlanned_2 (by decide) ?_
  refine lv_istore_n (lv' := [(2, .int 0), (1, .int 0), (0, .ref (E.a 52))]) hx hb dL_isPlanned_3 rfl hl (by decide) rfl (fun ls hl => ?_)
  refine lv_aload_n hx hb dL_isPlanned_4 rfl (lv_at hl 2 rfl) ?_
  refine x_geti hx hb hw (cL52 hE) (own := RL) (ref := RL) (C := RL) (T := TL) (N := 10) hts hiL hown rfl 3 (by decide) hk143 (fun _ h9 => h9) rfl dL_isPlanned_5 ?_
  obtain ⟨h0n, h20, hf⟩ := xsz_f hf
  obtain ⟨nn, en⟩ : ∃ n9 : Nat, n9 = ((σ 52 3)).toNatClampNeg := ⟨_, rfl⟩
  replace hf := hf nn en
  rw [← en] at h20
  have hw : xw (xPlus E []) A s.heap s σ s.heap _ := (by rw [xPlus_nil]; exact hw)
  refine x_newXX hx hb hown (hts (.classLink RL 146 "[I") (by decide +kernel)) hGL.2.2.2.1.1 hw hA (N' := nn) h0n en.symm (by omega) (show 0 + 1 ≤ 222 by omega) (by show 0 + nn ≤ 1272; omega) dL_isPlanned_8 (fun qb cAA H hKB hw => ?_)
  obtain rfl := xKA.eq hKA hKB
  clear hKB
  refine lv_astore_n (lv' := [(3, .ref qb), (2, .int 0), (1, .int 0), (0, .ref (E.a 52))]) hx hb dL_isPlanned_11 rfl hl (by decide) rfl (fun ls hl => ?_)
  refine lv_aload_n hx hb dL_isPlanned_12 rfl (lv_at hl 3 rfl) ?_
  refine x_geti hx hb hw (cL52 hE) (own := RL) (ref := RL) (C := RL) (T := TL) (N := 10) hts hiL hown rfl 3 (by decide) hk143 (fun _ h9 => h9) rfl dL_isPlanned_13 ?_
  refine x_newX hx hb (hts (.arrayClass .int) (by decide +kernel)) hw hA (N' := nn) h0n en.symm (by omega) (show (0 + 1) + 1 ≤ 222 by omega) (by show (0 + nn) + nn ≤ 1272; omega) dL_isPlanned_16 (fun qr H hw => ?_)
  have hw : xw (xPlus E ((qb, xRef (E.g.2.2 20) nn (fun _ => none)) :: (qr, xInts E.cA nn (fun _ => 0)) :: [])) A s.heap s σ H _ := hw
  have hB := xB_0 E.cA nn
  refine lv_astore (lv' := [(4, .ref qr), (3, .ref qb), (2, .int 0), (1, .int 0), (0, .ref (E.a 52))]) hx hb dL_isPlanned_18 hl (by decide) rfl (fun ls hl => ?_)
  refine lv_iconst (v := 0) hx hb dL_isPlanned_20 (by decide) ?_
  refine lv_istore (lv' := [(5, .int 0), (4, .ref qr), (3, .ref qb), (2, .int 0), (1, .int 0), (0, .ref (E.a 52))]) hx hb dL_isPlanned_21 hl (by decide) rfl (fun ls hl => ?_)
  exact h23 nn xF22 0 0 0 (fun _ => none) (fun _ => 0) σ _ _ _ ((0 + 1) + 1) ((0 + nn) + nn) _ _ _ _ hB hw (lv_sub hl [5, 4, 3, 2, 1, 0] rfl) hf (by omega) (by omega)
