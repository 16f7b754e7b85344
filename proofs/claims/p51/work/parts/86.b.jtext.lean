/-! ===== THE JDK'S TEXTS: leaves ===== -/
abbrev sbO (v : Nat) (ml : Int32) (n : Nat) : va_E := .inr (15, [.ref v, .int 0, .int ml, .int (nI n)])
abbrev soO (v : Nat) : va_E := .inr (14, [.ref v, .int 0, .int 0, .int 0])
def sbM (m : Nat) : Prop := m = 16 ∨ m = 34 ∨ m = 70
def sbP (h : Nat) (cB : ClassId) (n : Nat) (t : Nat → Nat) (X : va_W) : Prop := ∃ (v m : Nat) (ml : Int32) (a : Nat → Int32), X = [(h, sbO v ml n), (v, xBytes cB m a)] ∧ sbM m ∧ n ≤ m ∧ sb_Fit a ∧ sb_Lat t n a
def skW (i : Nat) : Nat := [1, 2].getD i 0
def skB (i j : Nat) : Int32 := (([[32], [44, 32]] : List (List Int32)).getD i []).getD j 0
/-- some of the cells behind the world, in another order -/
theorem xw_pick {E : xE} {A : Nat → Prop} {H0 : Heap} {s : State} {σ : xSt} {X Y : va_W} {H : Heap} {locs : List Loc} (hw : xw (xPlus E X) A H0 s σ H locs) (is : List Nat) (hs : is.map (fun i => X[i]?) = Y.map some) (hn : is.Nodup) : xw (xPlus E Y) A H0 s σ H locs := by
  have hlen : is.length = Y.length := by have h := congrArg List.length hs; rw [List.length_map, List.length_map] at h; exact h
  have hat : ∀ (k : Nat) (q : Nat × va_E), ((xPlus E Y).W σ)[k]? = some q → ((xPlus E X).W σ)[if k < xlen E σ then k else xlen E σ + is.getD (k - xlen E σ) 0]? = some q := by
    intro k q hk
    rw [xPlus_W] at hk
    by_cases h : k < xlen E σ
    · rw [if_pos h, xPlus_W, List.getElem?_append_left h]
      rw [List.getElem?_append_left h] at hk
      exact hk
    · rw [if_neg h]
      rw [List.getElem?_append_right (Nat.not_lt.mp h)] at hk
      have h2 := congrArg (fun l : List (Option (Nat × va_E)) => l[k - xlen E σ]?) hs
      simp only [List.getElem?_map] at h2
      have h3 : Y[k - xlen E σ]? = some q := hk
      rw [h3] at h2
      cases h4 : is[k - xlen E σ]? with
      | none => rw [h4] at h2; cases h2
      | some i =>
        rw [h4] at h2
        have h5 : X[i]? = some q := Option.some.inj h2
        rw [List.getD_eq_getElem?_getD, h4]
        exact xPlus_at h5
  have hl : ((xPlus E Y).W σ).length = xlen E σ + Y.length := by rw [xPlus_W, List.length_append]; rfl
  refine ⟨hw.1, va_P.by hw.2.1 _ hat, va_D.by hw.2.2.1 _ hat (fun i j hi hj he => ?_), hw.2.2.2⟩
  rw [hl] at hi hj
  by_cases h1 : i < xlen E σ <;> by_cases h2 : j < xlen E σ
  · rw [if_pos h1, if_pos h2] at he; exact he
  · rw [if_pos h1, if_neg h2] at he; omega
  · rw [if_neg h1, if_pos h2] at he; omega
  · rw [if_neg h1, if_neg h2] at he
    have h3 : i - xlen E σ < is.length := by omega
    have h4 : j - xlen E σ < is.length := by omega
    have h5 : is[i - xlen E σ] = is[j - xlen E σ] := by
      have e1 : is.getD (i - xlen E σ) 0 = is[i - xlen E σ] := by rw [List.getD_eq_getElem?_getD, List.getElem?_eq_getElem h3]; rfl
      have e2 : is.getD (j - xlen E σ) 0 = is[j - xlen E σ] := by rw [List.getD_eq_getElem?_getD, List.getElem?_eq_getElem h4]; rfl
      omega
    have h6 := (List.getElem_inj (h₀ := h3) (h₁ := h4) hn).mp h5
    omega

abbrev rmJ5_isLatin1_aae02 : Room := { frames := 0, cells := 0, slots := 0, locals := 0 }
set_option maxRecDepth 100000 in
set_option maxHeartbeats 4000000 in
theorem mJ5_isLatin1 {l : Launch} {E : xE} {X : va_W} (q : Nat) {h v n : Nat} {ml : Int32} (hq : X[q]? = some (h, sbO v ml n)) (σ : xSt) : xLi l yJ5_isLatin1_aae02 wsJ5_isLatin1_aae02 rmJ5_isLatin1_aae02 (xPlus E X) [.ref h] σ 1 σ 0 0 := by
  refine xLi_of (cc := cJ5_isLatin1_aae02) (maxL := 1) (ret := (some .boolean)) (by decide) rfl (Nat.le_of_ble_eq_true rfl) ?_
  intro p e s m9 args below meth c9 A ls ⟨hx, hb, hr, hml, hown, hts, hlk⟩ hA hGL hw hl
  have hown : s.vm.findClass RJ5 = some m9.cls := hown
  have hl : lv_has ls 1 [(0, .ref h)] := hl
  have hB : ArrOfT s (E.g.2.2 21) .byte ∧ va_RA s (E.g.2.2 21) .byte := hGL.kb
  have hiJ4 : ∀ w ∈ wsJ40, w ∈ wsJ5_isLatin1_aae02 := by decide +kernel
  refine va_gets hx hb hGL.2.2.2.2.2.2.1 hw.2.2.2 hown (hts (.fieldLink RJ5 18 "java/lang/String" "COMPACT_STRINGS" "Z") (by decide +kernel)) (fun _ h9 => h9) dJ5_isLatin1_aae02_0 ?_
  refine lv_if_eq (tgt := 17) hx hb dJ5_isLatin1_aae02_3 (by decide) (fun cx => absurd cx (by decide)) (fun _ => ?_)
  refine lv_aload_n hx hb dJ5_isLatin1_aae02_6 rfl (lv_at hl 0 rfl) ?_
  refine x_getX hx hb hw q hq (own := RJ5) (ref := "java/lang/AbstractStringBuilder") (C := RJ4) (T := TJ4) (N := 4) hts hiJ4 hown rfl 1 (by decide) (hts (.fieldLink RJ5 22 "java/lang/AbstractStringBuilder" "coder" "B") (by decide +kernel)) (fun _ h9 => h9) rfl dJ5_isLatin1_aae02_7 ?_
  refine lv_if_ne (tgt := 17) hx hb dJ5_isLatin1_aae02_10 (by decide) (fun cx => absurd (by decide) cx) (fun _ => ?_)
  refine lv_iconst (v := 1) hx hb dJ5_isLatin1_aae02_13 (by decide) ?_
  refine lv_goto (tgt := 18) hx hb dJ5_isLatin1_aae02_14 (by decide) ?_
  exact x_Jiret hx hb hr rfl hlk hw (Nat.le_of_ble_eq_true rfl) (Nat.le_of_ble_eq_true rfl) dJ5_isLatin1_aae02_18

abbrev rmJ5_length_8abf5 : Room := { frames := 0, cells := 0, slots := 0, locals := 0 }
set_option maxRecDepth 100000 in
set_option maxHeartbeats 4000000 in
theorem mJ5_length {l : Launch} {E : xE} {X : va_W} (q : Nat) {h v n : Nat} {ml : Int32} (hq : X[q]? = some (h, sbO v ml n)) (σ : xSt) : xLi l yJ5_length_8abf5 wsJ5_length_8abf5 rmJ5_length_8abf5 (xPlus E X) [.ref h] σ (nI n) σ 0 0 := by
  refine xLi_of (cc := cJ5_length_8abf5) (maxL := 1) (ret := (some .int)) (by decide) rfl (Nat.le_of_ble_eq_true rfl) ?_
  intro p e s m9 args below meth c9 A ls ⟨hx, hb, hr, hml, hown, hts, hlk⟩ hA hGL hw hl
  have hown : s.vm.findClass RJ5 = some m9.cls := hown
  have hl : lv_has ls 1 [(0, .ref h)] := hl
  have hB : ArrOfT s (E.g.2.2 21) .byte ∧ va_RA s (E.g.2.2 21) .byte := hGL.kb
  have hiJ4 : ∀ w ∈ wsJ40, w ∈ wsJ5_length_8abf5 := by decide +kernel
  refine lv_aload_n hx hb dJ5_length_8abf5_0 rfl (lv_at hl 0 rfl) ?_
  refine x_getX hx hb hw q hq (own := RJ5) (ref := "java/lang/AbstractStringBuilder") (C := RJ4) (T := TJ4) (N := 4) hts hiJ4 hown rfl 3 (by decide) (hts (.fieldLink RJ5 79 "java/lang/AbstractStringBuilder" "count" "I") (by decide +kernel)) (fun _ h9 => h9) rfl dJ5_length_8abf5_1 ?_
  exact x_Jiret hx hb hr rfl hlk hw (Nat.le_of_ble_eq_true rfl) (Nat.le_of_ble_eq_true rfl) dJ5_length_8abf5_4

abbrev rmJ5_getValue_6d5f1 : Room := { frames := 0, cells := 0, slots := 0, locals := 0 }
set_option maxRecDepth 100000 in
set_option maxHeartbeats 4000000 in
theorem mJ5_getValue {l : Launch} {E : xE} {X : va_W} (q : Nat) {h v n : Nat} {ml : Int32} (hq : X[q]? = some (h, sbO v ml n)) (σ : xSt) : xJr l yJ5_getValue_6d5f1 wsJ5_getValue_6d5f1 rmJ5_getValue_6d5f1 E X [.ref h] σ (fun X1 r => X1 = X ∧ r = v) 0 0 := by
  intro sz
  refine xJ_of (cc := cJ5_getValue_6d5f1) (maxL := 1) (ret := (some (.array .byte))) (QF := fun B => xQr2 E B (fun X1 r => X1 = X ∧ r = v) σ) sz (by decide) rfl (Nat.le_of_ble_eq_true rfl) ?_
  intro p e s m9 args below meth c9 A ls ⟨hx, hb, hr, hml, hown, hts, hlk⟩ hnm hA hGL hw hl
  have hown : s.vm.findClass RJ5 = some m9.cls := hown
  have hl : lv_has ls 1 [(0, .ref h)] := hl
  have hB : ArrOfT s (E.g.2.2 21) .byte ∧ va_RA s (E.g.2.2 21) .byte := hGL.kb
  have hiJ4 : ∀ w ∈ wsJ40, w ∈ wsJ5_getValue_6d5f1 := by decide +kernel
  refine lv_aload_n hx hb dJ5_getValue_6d5f1_0 rfl (lv_at hl 0 rfl) ?_
  refine x_getX hx hb hw q hq (own := RJ5) (ref := "java/lang/AbstractStringBuilder") (C := RJ4) (T := TJ4) (N := 4) hts hiJ4 hown rfl 0 (by decide) (hts (.fieldLink RJ5 15 "java/lang/AbstractStringBuilder" "value" "[B") (by decide +kernel)) (fun _ h9 => h9) rfl dJ5_getValue_6d5f1_1 ?_
  exact x_Jaret hx hb hr (Or.inr ⟨_, rfl⟩) hlk hw ⟨rfl, rfl⟩ (Nat.le_of_ble_eq_true rfl) (Nat.le_of_ble_eq_true rfl) dJ5_getValue_6d5f1_4

abbrev rmJ0_coder_7d493 : Room := { frames := 0, cells := 0, slots := 0, locals := 0 }
set_option maxRecDepth 100000 in
set_option maxHeartbeats 4000000 in
theorem mJ0_coderK {l : Launch} {E : xE} {i : Nat} (hi : i < 2) (σ : xSt) : xLi l yJ0_coder_7d493 wsJ0_coder_7d493 rmJ0_coder_7d493 E [.ref (E.g.2.2 (12 + i))] σ 0 σ 0 0 := by
  refine xLi_of (cc := cJ0_coder_7d493) (maxL := 1) (ret := (some .byte)) (by decide) rfl (Nat.le_of_ble_eq_true rfl) ?_
  intro p e s m9 args below meth c9 A ls ⟨hx, hb, hr, hml, hown, hts, hlk⟩ hA hGL hw hl
  have hown : s.vm.findClass RJ0 = some m9.cls := hown
  have hl : lv_has ls 1 [(0, .ref (E.g.2.2 (12 + i)))] := hl
  have hB : ArrOfT s (E.g.2.2 21) .byte ∧ va_RA s (E.g.2.2 21) .byte := hGL.kb
  refine va_gets hx hb hGL.2.2.2.2.2.2.1 hw.2.2.2 hown (hts (.fieldLink RJ0 38 "java/lang/String" "COMPACT_STRINGS" "Z") (by decide +kernel)) (fun _ h9 => h9) dJ0_coder_7d493_0 ?_
  refine lv_if_eq (tgt := 13) hx hb dJ0_coder_7d493_3 (by decide) (fun cx => absurd cx (by decide)) (fun _ => ?_)
  refine lv_aload_n hx hb dJ0_coder_7d493_6 rfl (lv_at hl 0 rfl) ?_
  refine vk_getf hx hb (hGL.2.2.2.2.2.1.1 i hi).2.1 hw.2.2.2 hown (hts (.fieldLink RJ0 15 "java/lang/String" "coder" "B") (by decide +kernel)) (fun _ h9 => h9) dJ0_coder_7d493_7 ?_
  refine lv_goto (tgt := 14) hx hb dJ0_coder_7d493_10 (by decide) ?_
  exact x_Jiret hx hb hr rfl hlk hw (Nat.le_of_ble_eq_true rfl) (Nat.le_of_ble_eq_true rfl) dJ0_coder_7d493_14

set_option maxRecDepth 100000 in
set_option maxHeartbeats 4000000 in
theorem mJ0_coderM {l : Launch} {E : xE} {X : va_W} (q : Nat) {h v : Nat} (hq : X[q]? = some (h, soO v)) (σ : xSt) : xLi l yJ0_coder_7d493 wsJ0_coder_7d493 rmJ0_coder_7d493 (xPlus E X) [.ref h] σ 0 σ 0 0 := by
  refine xLi_of (cc := cJ0_coder_7d493) (maxL := 1) (ret := (some .byte)) (by decide) rfl (Nat.le_of_ble_eq_true rfl) ?_
  intro p e s m9 args below meth c9 A ls ⟨hx, hb, hr, hml, hown, hts, hlk⟩ hA hGL hw hl
  have hown : s.vm.findClass RJ0 = some m9.cls := hown
  have hl : lv_has ls 1 [(0, .ref h)] := hl
  have hB : ArrOfT s (E.g.2.2 21) .byte ∧ va_RA s (E.g.2.2 21) .byte := hGL.kb
  have hiJ0 : ∀ w ∈ wsJ00, w ∈ wsJ0_coder_7d493 := by decide +kernel
  refine va_gets hx hb hGL.2.2.2.2.2.2.1 hw.2.2.2 hown (hts (.fieldLink RJ0 38 "java/lang/String" "COMPACT_STRINGS" "Z") (by decide +kernel)) (fun _ h9 => h9) dJ0_coder_7d493_0 ?_
  refine lv_if_eq (tgt := 13) hx hb dJ0_coder_7d493_3 (by decide) (fun cx => absurd cx (by decide)) (fun _ => ?_)
  refine lv_aload_n hx hb dJ0_coder_7d493_6 rfl (lv_at hl 0 rfl) ?_
  refine x_getX hx hb hw q hq (own := RJ0) (ref := "java/lang/String") (C := RJ0) (T := TJ0) (N := 4) hts hiJ0 hown rfl 1 (by decide) (hts (.fieldLink RJ0 15 "java/lang/String" "coder" "B") (by decide +kernel)) (fun _ h9 => h9) rfl dJ0_coder_7d493_7 ?_
  refine lv_goto (tgt := 14) hx hb dJ0_coder_7d493_10 (by decide) ?_
  exact x_Jiret hx hb hr rfl hlk hw (Nat.le_of_ble_eq_true rfl) (Nat.le_of_ble_eq_true rfl) dJ0_coder_7d493_14

abbrev rmJ0_length_8abf5 : Room := { frames := 1, cells := 0, slots := 0, locals := 20 }
set_option maxRecDepth 100000 in
set_option maxHeartbeats 4000000 in
theorem mJ0_lengthK {l : Launch} {E : xE} {i : Nat} (hi : i < 2) (σ : xSt) : xLi l yJ0_length_8abf5 wsJ0_length_8abf5 rmJ0_length_8abf5 E [.ref (E.g.2.2 (12 + i))] σ (nI (skW i)) σ 0 0 := by
  refine xLi_of (cc := cJ0_length_8abf5) (maxL := 1) (ret := (some .int)) (by decide) rfl (Nat.le_of_ble_eq_true rfl) ?_
  intro p e s m9 args below meth c9 A ls ⟨hx, hb, hr, hml, hown, hts, hlk⟩ hA hGL hw hl
  have hown : s.vm.findClass RJ0 = some m9.cls := hown
  have hl : lv_has ls 1 [(0, .ref (E.g.2.2 (12 + i)))] := hl
  have hB : ArrOfT s (E.g.2.2 21) .byte ∧ va_RA s (E.g.2.2 21) .byte := hGL.kb
  refine lv_aload_n hx hb dJ0_length_8abf5_0 rfl (lv_at hl 0 rfl) ?_
  refine vk_getf hx hb (hGL.2.2.2.2.2.1.1 i hi).2.2.1 hw.2.2.2 hown (hts (.fieldLink RJ0 9 "java/lang/String" "value" "[B") (by decide +kernel)) (fun _ h9 => h9) dJ0_length_8abf5_1 ?_
  refine va_tlen hx hb (hGL.2.2.2.2.2.1.1 i hi).2.2.2 hw.2.2.2 (v := nI (skW i)) rfl dJ0_length_8abf5_4 ?_
  refine lv_aload_n hx hb dJ0_length_8abf5_5 rfl (lv_at hl 0 rfl) ?_
  refine x_callLi (va_runV (As := []) (rest := [.int (nI (skW i))]) ⟨hx, hb, hml, hown, hts⟩ (mJ0_coderK (E := E) hi σ s.heap.size) (cwV 0 hts gJ0_length_8abf5_J0_coder_7d493 rfl rfl rfl (by decide +kernel) ⟨(Nat.le_of_ble_eq_true rfl), (Nat.le_of_ble_eq_true rfl)⟩) (x_preLK _ hw hA hGL hi) rfl rfl hl.1 rfl (lv_room (Nat.le_of_ble_eq_true rfl)) dJ0_length_8abf5_6 ⟨(Nat.le_of_ble_eq_true rfl), (Nat.le_of_ble_eq_true rfl)⟩) hw hA (fun H locs hw => ?_)
  refine lv_ishr hx hb dJ0_length_8abf5_9 ?_
  rw [sb_shr0]
  exact x_Jiret hx hb hr rfl hlk hw (Nat.le_of_ble_eq_true rfl) (Nat.le_of_ble_eq_true rfl) dJ0_length_8abf5_10

set_option maxRecDepth 100000 in
set_option maxHeartbeats 4000000 in
theorem mJ0_lengthM {l : Launch} {E : xE} {X : va_W} (q q2 : Nat) {h v n : Nat} {a : Nat → Int32} (hq : X[q]? = some (h, soO v)) (hq2 : X[q2]? = some (v, xBytes (E.g.2.2 21) n a)) (σ : xSt) : xLi l yJ0_length_8abf5 wsJ0_length_8abf5 rmJ0_length_8abf5 (xPlus E X) [.ref h] σ (nI n) σ 0 0 := by
  refine xLi_of (cc := cJ0_length_8abf5) (maxL := 1) (ret := (some .int)) (by decide) rfl (Nat.le_of_ble_eq_true rfl) ?_
  intro p e s m9 args below meth c9 A ls ⟨hx, hb, hr, hml, hown, hts, hlk⟩ hA hGL hw hl
  have hown : s.vm.findClass RJ0 = some m9.cls := hown
  have hl : lv_has ls 1 [(0, .ref h)] := hl
  have hB : ArrOfT s (E.g.2.2 21) .byte ∧ va_RA s (E.g.2.2 21) .byte := hGL.kb
  have hiJ0 : ∀ w ∈ wsJ00, w ∈ wsJ0_length_8abf5 := by decide +kernel
  refine lv_aload_n hx hb dJ0_length_8abf5_0 rfl (lv_at hl 0 rfl) ?_
  refine x_getX hx hb hw q hq (own := RJ0) (ref := "java/lang/String") (C := RJ0) (T := TJ0) (N := 4) hts hiJ0 hown rfl 0 (by decide) (hts (.fieldLink RJ0 9 "java/lang/String" "value" "[B") (by decide +kernel)) (fun _ h9 => h9) rfl dJ0_length_8abf5_1 ?_
  refine x_alenB (v := nI n) hx hb hB hw q2 hq2 rfl dJ0_length_8abf5_4 ?_
  refine lv_aload_n hx hb dJ0_length_8abf5_5 rfl (lv_at hl 0 rfl) ?_
  refine x_callLi (va_runV (As := []) (rest := [.int (nI n)]) ⟨hx, hb, hml, hown, hts⟩ (mJ0_coderM (E := E) (X := X) q hq σ s.heap.size) (cwV 0 hts gJ0_length_8abf5_J0_coder_7d493 rfl rfl rfl (by decide +kernel) ⟨(Nat.le_of_ble_eq_true rfl), (Nat.le_of_ble_eq_true rfl)⟩) (x_preLX _ hw hA hGL (q := q) hq rfl) rfl rfl hl.1 rfl (lv_room (Nat.le_of_ble_eq_true rfl)) dJ0_length_8abf5_6 ⟨(Nat.le_of_ble_eq_true rfl), (Nat.le_of_ble_eq_true rfl)⟩) hw hA (fun H locs hw => ?_)
  refine lv_ishr hx hb dJ0_length_8abf5_9 ?_
  rw [sb_shr0]
  exact x_Jiret hx hb hr rfl hlk hw (Nat.le_of_ble_eq_true rfl) (Nat.le_of_ble_eq_true rfl) dJ0_length_8abf5_10

abbrev rmJ0_isLatin1_aae02 : Room := { frames := 0, cells := 0, slots := 0, locals := 0 }
set_option maxRecDepth 100000 in
set_option maxHeartbeats 4000000 in
theorem mJ0_isLatin1 {l : Launch} {E : xE} {X : va_W} (q : Nat) {h v : Nat} (hq : X[q]? = some (h, soO v)) (σ : xSt) : xLi l yJ0_isLatin1_aae02 wsJ0_isLatin1_aae02 rmJ0_isLatin1_aae02 (xPlus E X) [.ref h] σ 1 σ 0 0 := by
  refine xLi_of (cc := cJ0_isLatin1_aae02) (maxL := 1) (ret := (some .boolean)) (by decide) rfl (Nat.le_of_ble_eq_true rfl) ?_
  intro p e s m9 args below meth c9 A ls ⟨hx, hb, hr, hml, hown, hts, hlk⟩ hA hGL hw hl
  have hown : s.vm.findClass RJ0 = some m9.cls := hown
  have hl : lv_has ls 1 [(0, .ref h)] := hl
  have hB : ArrOfT s (E.g.2.2 21) .byte ∧ va_RA s (E.g.2.2 21) .byte := hGL.kb
  have hiJ0 : ∀ w ∈ wsJ00, w ∈ wsJ0_isLatin1_aae02 := by decide +kernel
  refine va_gets hx hb hGL.2.2.2.2.2.2.1 hw.2.2.2 hown (hts (.fieldLink RJ0 38 "java/lang/String" "COMPACT_STRINGS" "Z") (by decide +kernel)) (fun _ h9 => h9) dJ0_isLatin1_aae02_0 ?_
  refine lv_if_eq (tgt := 17) hx hb dJ0_isLatin1_aae02_3 (by decide) (fun cx => absurd cx (by decide)) (fun _ => ?_)
  refine lv_aload_n hx hb dJ0_isLatin1_aae02_6 rfl (lv_at hl 0 rfl) ?_
  refine x_getX hx hb hw q hq (own := RJ0) (ref := "java/lang/String") (C := RJ0) (T := TJ0) (N := 4) hts hiJ0 hown rfl 1 (by decide) (hts (.fieldLink RJ0 15 "java/lang/String" "coder" "B") (by decide +kernel)) (fun _ h9 => h9) rfl dJ0_isLatin1_aae02_7 ?_
  refine lv_if_ne (tgt := 17) hx hb dJ0_isLatin1_aae02_10 (by decide) (fun cx => absurd (by decide) cx) (fun _ => ?_)
  refine lv_iconst (v := 1) hx hb dJ0_isLatin1_aae02_13 (by decide) ?_
  refine lv_goto (tgt := 18) hx hb dJ0_isLatin1_aae02_14 (by decide) ?_
  exact x_Jiret hx hb hr rfl hlk hw (Nat.le_of_ble_eq_true rfl) (Nat.le_of_ble_eq_true rfl) dJ0_isLatin1_aae02_18

abbrev rmJ1_canEncode_fc78d : Room := { frames := 0, cells := 0, slots := 0, locals := 0 }
set_option maxRecDepth 100000 in
set_option maxHeartbeats 4000000 in
theorem mJ1_canEncode {l : Launch} {E : xE} (c0 : Int32) (hc0 : ¬ 255 < c0) (σ : xSt) : xLi l yJ1_canEncode_fc78d wsJ1_canEncode_fc78d rmJ1_canEncode_fc78d E [.int c0] σ 1 σ 0 0 := by
  refine xLi_of (cc := cJ1_canEncode_fc78d) (maxL := 1) (ret := (some .boolean)) (by decide) rfl (Nat.le_of_ble_eq_true rfl) ?_
  intro p e s m9 args below meth c9 A ls ⟨hx, hb, hr, hml, hown, hts, hlk⟩ hA hGL hw hl
  have hown : s.vm.findClass RJ1 = some m9.cls := hown
  have hl : lv_has ls 1 [(0, .int c0)] := hl
  have hB : ArrOfT s (E.g.2.2 21) .byte ∧ va_RA s (E.g.2.2 21) .byte := hGL.kb
  refine lv_iload_n hx hb dJ1_canEncode_fc78d_0 rfl (lv_at hl 0 rfl) ?_
  refine lv_sipush (v := 255) hx hb dJ1_canEncode_fc78d_1 (by decide) ?_
  refine lv_icmp_gt (tgt := 11) hx hb dJ1_canEncode_fc78d_4 (by decide) (fun cx => absurd cx hc0) (fun _ => ?_)
  refine lv_iconst (v := 1) hx hb dJ1_canEncode_fc78d_7 (by decide) ?_
  refine lv_goto (tgt := 12) hx hb dJ1_canEncode_fc78d_8 (by decide) ?_
  exact x_Jiret hx hb hr rfl hlk hw (Nat.le_of_ble_eq_true rfl) (Nat.le_of_ble_eq_true rfl) dJ1_canEncode_fc78d_12

abbrev rmJ8_newLength_cabcc : Room := { frames := 1, cells := 0, slots := 0, locals := 60 }
set_option maxRecDepth 100000 in
set_option maxHeartbeats 4000000 in
theorem mJ8_newLength {l : Launch} {E : xE} (a b c : Nat) (h1 : b ≤ c) (h2 : 0 < c) (h3 : a + c ≤ 1000) (σ : xSt) : xLi l yJ8_newLength_cabcc wsJ8_newLength_cabcc rmJ8_newLength_cabcc E [.int (nI a), .int (nI b), .int (nI c)] σ (nI (a + c)) σ 0 0 := by
  refine xLi_of (cc := cJ8_newLength_cabcc) (maxL := 4) (ret := (some .int)) (by decide) rfl (Nat.le_of_ble_eq_true rfl) ?_
  intro p e s m9 args below meth c9 A ls ⟨hx, hb, hr, hml, hown, hts, hlk⟩ hA hGL hw hl
  have hown : s.vm.findClass RJ8 = some m9.cls := hown
  have hl : lv_has ls 4 [(0, .int (nI a)), (1, .int (nI b)), (2, .int (nI c))] := hl
  have hB : ArrOfT s (E.g.2.2 21) .byte ∧ va_RA s (E.g.2.2 21) .byte := hGL.kb
  have hmm : (if nI b < nI c then nI c else nI b) = nI c := by
    by_cases hbc : b < c
    · rw [if_pos (nI_lt hbc (by omega))]
    · obtain rfl : b = c := by omega
      exact ite_self _
  refine lv_iload_n hx hb dJ8_newLength_cabcc_0 rfl (lv_at hl 0 rfl) ?_
  refine lv_iload_n hx hb dJ8_newLength_cabcc_1 rfl (lv_at hl 1 rfl) ?_
  refine lv_iload_n hx hb dJ8_newLength_cabcc_2 rfl (lv_at hl 2 rfl) ?_
  refine va_mmax hx hb (hml.trans hl.1.symm) hown (hts (.methodLink RJ8 194 Lib.Math.max.name) (by decide +kernel)) (hts (.static Lib.Math.max.name) (by decide +kernel)) (hts (.initialized "java/lang/Math") (by decide +kernel)) (hts (.code Lib.Math.max.name Lib.Math.max.code 2 (some .int)) (by decide +kernel)) (Nat.le_of_ble_eq_true rfl) (Nat.le_of_ble_eq_true rfl) (Nat.le_of_ble_eq_true rfl) (Nat.le_of_ble_eq_true rfl) dJ8_newLength_cabcc_3 ?_
  rw [hmm]
  refine lv_iadd hx hb dJ8_newLength_cabcc_6 ?_
  rw [nI_add]
  refine lv_istore_n (lv' := [(3, .int (nI (a + c))), (0, .int (nI a)), (1, .int (nI b)), (2, .int (nI c))]) hx hb dJ8_newLength_cabcc_7 rfl hl (by decide) rfl (fun ls hl => ?_)
  refine lv_iconst (v := 0) hx hb dJ8_newLength_cabcc_8 (by decide) ?_
  refine lv_iload_n hx hb dJ8_newLength_cabcc_9 rfl (lv_at hl 0 rfl) ?_
  refine lv_icmp_ge (tgt := 21) hx hb dJ8_newLength_cabcc_10 (by decide) (fun cx => absurd cx (nI_nle (by omega) (by omega))) (fun _ => ?_)
  refine lv_iload_n hx hb dJ8_newLength_cabcc_13 rfl (lv_at hl 0 rfl) ?_
  refine lv_ldc hx hb hown (hts (.constant RJ8 200 (2147483639)) (by decide +kernel)) dJ8_newLength_cabcc_14 ?_
  refine lv_icmp_gt (tgt := 21) hx hb dJ8_newLength_cabcc_16 (by decide) (fun cx => absurd cx (nI_nlt (a := 2147483639) (by omega) (by omega))) (fun _ => ?_)
  refine lv_iload_n hx hb dJ8_newLength_cabcc_19 rfl (lv_at hl 0 rfl) ?_
  exact x_Jiret hx hb hr rfl hlk hw (Nat.le_of_ble_eq_true rfl) (Nat.le_of_ble_eq_true rfl) dJ8_newLength_cabcc_20

abbrev rmJ5_newCapacity_0f7a4 : Room := { frames := 2, cells := 0, slots := 0, locals := 90 }
set_option maxRecDepth 100000 in
set_option maxHeartbeats 4000000 in
theorem mJ5_newCapacity {l : Launch} {E : xE} {X : va_W} (q q2 : Nat) {h v n m : Nat} {ml : Int32} {a : Nat → Int32} (hq : X[q]? = some (h, sbO v ml n)) (hq2 : X[q2]? = some (v, xBytes (E.g.2.2 21) m a)) (k : Nat) (h1 : m < k) (h2 : k ≤ m + 2) (h3 : m ≤ 100) (σ : xSt) : xLi l yJ5_newCapacity_0f7a4 wsJ5_newCapacity_0f7a4 rmJ5_newCapacity_0f7a4 (xPlus E X) [.ref h, .int (nI k)] σ (nI (m + (m + 2))) σ 0 0 := by
  refine xLi_of (cc := cJ5_newCapacity_0f7a4) (maxL := 6) (ret := (some .int)) (by decide) rfl (Nat.le_of_ble_eq_true rfl) ?_
  intro p e s m9 args below meth c9 A ls ⟨hx, hb, hr, hml, hown, hts, hlk⟩ hA hGL hw hl
  have hown : s.vm.findClass RJ5 = some m9.cls := hown
  have hl : lv_has ls 6 [(0, .ref h), (1, .int (nI k))] := hl
  have hB : ArrOfT s (E.g.2.2 21) .byte ∧ va_RA s (E.g.2.2 21) .byte := hGL.kb
  have hiJ4 : ∀ w ∈ wsJ40, w ∈ wsJ5_newCapacity_0f7a4 := by decide +kernel
  have he2 : nI m + 2 = nI (m + 2) := nI_add m 2
  refine lv_aload_n hx hb dJ5_newCapacity_0f7a4_0 rfl (lv_at hl 0 rfl) ?_
  refine x_getX hx hb hw q hq (own := RJ5) (ref := "java/lang/AbstractStringBuilder") (C := RJ4) (T := TJ4) (N := 4) hts hiJ4 hown rfl 0 (by decide) (hts (.fieldLink RJ5 15 "java/lang/AbstractStringBuilder" "value" "[B") (by decide +kernel)) (fun _ h9 => h9) rfl dJ5_newCapacity_0f7a4_1 ?_
  refine x_alenB (v := nI m) hx hb hB hw q2 hq2 rfl dJ5_newCapacity_0f7a4_4 ?_
  refine lv_istore_n (lv' := [(2, .int (nI m)), (0, .ref h), (1, .int (nI k))]) hx hb dJ5_newCapacity_0f7a4_5 rfl hl (by decide) rfl (fun ls hl => ?_)
  refine lv_iload_n hx hb dJ5_newCapacity_0f7a4_6 rfl (lv_at hl 2 rfl) ?_
  refine lv_aload_n hx hb dJ5_newCapacity_0f7a4_7 rfl (lv_at hl 1 rfl) ?_
  refine x_getX hx hb hw q hq (own := RJ5) (ref := "java/lang/AbstractStringBuilder") (C := RJ4) (T := TJ4) (N := 4) hts hiJ4 hown rfl 1 (by decide) (hts (.fieldLink RJ5 22 "java/lang/AbstractStringBuilder" "coder" "B") (by decide +kernel)) (fun _ h9 => h9) rfl dJ5_newCapacity_0f7a4_8 ?_
  refine lv_ishl hx hb dJ5_newCapacity_0f7a4_11 ?_
  rw [sb_shl0]
  refine lv_istore_n (lv' := [(3, .int (nI k)), (2, .int (nI m)), (0, .ref h), (1, .int (nI k))]) hx hb dJ5_newCapacity_0f7a4_12 rfl hl (by decide) rfl (fun ls hl => ?_)
  refine lv_iload_n hx hb dJ5_newCapacity_0f7a4_13 rfl (lv_at hl 0 rfl) ?_
  refine lv_iload_n hx hb dJ5_newCapacity_0f7a4_14 rfl (lv_at hl 1 rfl) ?_
  refine lv_isub hx hb dJ5_newCapacity_0f7a4_15 ?_
  rw [pk_sub (show m ≤ k by omega)]
  refine lv_istore (lv' := [(4, .int (nI (k - m))), (3, .int (nI k)), (2, .int (nI m)), (0, .ref h), (1, .int (nI k))]) hx hb dJ5_newCapacity_0f7a4_16 hl (by decide) rfl (fun ls hl => ?_)
  refine lv_iload_n hx hb dJ5_newCapacity_0f7a4_18 rfl (lv_at hl 2 rfl) ?_
  refine lv_iload hx hb dJ5_newCapacity_0f7a4_19 (lv_at hl 0 rfl) ?_
  refine lv_iload_n hx hb dJ5_newCapacity_0f7a4_21 rfl (lv_at hl 2 rfl) ?_
  refine lv_iconst (v := 2) hx hb dJ5_newCapacity_0f7a4_22 (by decide) ?_
  refine lv_aload_n hx hb dJ5_newCapacity_0f7a4_23 rfl (lv_at hl 3 rfl) ?_
  refine x_getX hx hb hw q hq (own := RJ5) (ref := "java/lang/AbstractStringBuilder") (C := RJ4) (T := TJ4) (N := 4) hts hiJ4 hown rfl 1 (by decide) (hts (.fieldLink RJ5 22 "java/lang/AbstractStringBuilder" "coder" "B") (by decide +kernel)) (fun _ h9 => h9) rfl dJ5_newCapacity_0f7a4_24 ?_
  refine lv_ishl hx hb dJ5_newCapacity_0f7a4_27 ?_
  rw [sb_shl0]
  refine lv_iadd hx hb dJ5_newCapacity_0f7a4_28 ?_
  rw [he2]
  refine x_callLi (va_runS (As := [.int (nI m), .int (nI (k - m)), .int (nI (m + 2))]) (rest := []) ⟨hx, hb, hml, hown, hts⟩ (mJ8_newLength (E := xPlus E X) m (k - m) (m + 2) (by omega) (by omega) (by omega) σ s.heap.size) (va_cwS 3 hts gJ5_newCapacity_0f7a4_J8_newLength_cabcc rfl rfl rfl (by decide +kernel) ⟨(Nat.le_of_ble_eq_true rfl), (Nat.le_of_ble_eq_true rfl)⟩) (x_preLS _ hw hA hGL) rfl rfl hl.1 rfl (lv_room (Nat.le_of_ble_eq_true rfl)) dJ5_newCapacity_0f7a4_29 ⟨(Nat.le_of_ble_eq_true rfl), (Nat.le_of_ble_eq_true rfl)⟩) hw hA (fun H locs hw => ?_)
  refine lv_istore (lv' := [(5, .int (nI (m + (m + 2)))), (4, .int (nI (k - m))), (3, .int (nI k)), (2, .int (nI m)), (0, .ref h), (1, .int (nI k))]) hx hb dJ5_newCapacity_0f7a4_32 hl (by decide) rfl (fun ls hl => ?_)
  refine lv_iload hx hb dJ5_newCapacity_0f7a4_34 (lv_at hl 0 rfl) ?_
  refine lv_ldc hx hb hown (hts (.constant RJ5 39 (2147483647)) (by decide +kernel)) dJ5_newCapacity_0f7a4_36 ?_
  refine lv_icmp_ne (tgt := 51) hx hb dJ5_newCapacity_0f7a4_38 (by decide) (fun _ => ?_) (fun cx => absurd cx (fun z => by have := (nI_eq (a := m + (m + 2)) (b := 2147483647) (by omega) (by decide)).mp z; omega))
  refine lv_iload hx hb dJ5_newCapacity_0f7a4_51 (lv_at hl 0 rfl) ?_
  refine lv_aload_n hx hb dJ5_newCapacity_0f7a4_53 rfl (lv_at hl 4 rfl) ?_
  refine x_getX hx hb hw q hq (own := RJ5) (ref := "java/lang/AbstractStringBuilder") (C := RJ4) (T := TJ4) (N := 4) hts hiJ4 hown rfl 1 (by decide) (hts (.fieldLink RJ5 22 "java/lang/AbstractStringBuilder" "coder" "B") (by decide +kernel)) (fun _ h9 => h9) rfl dJ5_newCapacity_0f7a4_54 ?_
  refine lv_ishr hx hb dJ5_newCapacity_0f7a4_57 ?_
  rw [sb_shr0]
  exact x_Jiret hx hb hr rfl hlk hw (Nat.le_of_ble_eq_true rfl) (Nat.le_of_ble_eq_true rfl) dJ5_newCapacity_0f7a4_58

abbrev rmJ7_copyOf_9075b : Room := { frames := 1, cells := 1, slots := 70, locals := 80 }
set_option maxRecDepth 100000 in
set_option maxHeartbeats 4000000 in
theorem mJ7_copyOf {l : Launch} {E : xE} {X : va_W} (q2 : Nat) {v m : Nat} {a : Nat → Int32} (hq2 : X[q2]? = some (v, xBytes (E.g.2.2 21) m a)) (k : Nat) (h1 : m < k) (h2 : k ≤ 70) (hf : sb_Fit a) (σ : xSt) : xJr l yJ7_copyOf_9075b wsJ7_copyOf_9075b rmJ7_copyOf_9075b E X [.ref v, .int (nI k)] σ (fun X1 r => X1 = (X ++ [(r, xBytes (E.g.2.2 21) k (va_cpy a (fun _ => 0) 0 0 m))])) 1 70 := by
  intro sz
  refine xJ_of (cc := cJ7_copyOf_9075b) (maxL := 3) (ret := (some (.array .byte))) (QF := fun B => xQr2 E B (fun X1 r => X1 = (X ++ [(r, xBytes (E.g.2.2 21) k (va_cpy a (fun _ => 0) 0 0 m))])) σ) sz (by decide) rfl (Nat.le_of_ble_eq_true rfl) ?_
  intro p e s m9 args below meth c9 A ls ⟨hx, hb, hr, hml, hown, hts, hlk⟩ hnm hA hGL hw hl
  have hown : s.vm.findClass RJ7 = some m9.cls := hown
  have hl : lv_has ls 3 [(0, .ref v), (1, .int (nI k))] := hl
  have hB : ArrOfT s (E.g.2.2 21) .byte ∧ va_RA s (E.g.2.2 21) .byte := hGL.kb
  have hmm : (if nI k < nI m then nI k else nI m) = nI m := if_neg (nI_nlt (by omega) (by omega))
  refine lv_iload_n hx hb dJ7_copyOf_9075b_0 rfl (lv_at hl 1 rfl) ?_
  refine lv_aload_n hx hb dJ7_copyOf_9075b_1 rfl (lv_at hl 0 rfl) ?_
  refine x_alenB (v := nI m) hx hb hB hw q2 hq2 rfl dJ7_copyOf_9075b_2 ?_
  refine lv_icmp_ne (tgt := 14) hx hb dJ7_copyOf_9075b_3 (by decide) (fun _ => ?_) (fun cx => absurd cx (fun z => by have := (nI_eq (a := k) (b := m) (by omega) (by omega)).mp z; omega))
  refine lv_iload_n hx hb dJ7_copyOf_9075b_14 rfl (lv_at hl 1 rfl) ?_
  refine x_newB hx hb (hts (.arrayClass .byte) (by decide +kernel)) hB hw hA (n := nI k) (N' := k) (nI_pos (by omega)) (nI_clamp (by omega)) (by omega) (Nat.le_of_ble_eq_true rfl) (show 0 + k ≤ 70 by omega) dJ7_copyOf_9075b_15 (fun r H hw => ?_)
  refine lv_astore_n (lv' := [(2, .ref r), (0, .ref v), (1, .int (nI k))]) hx hb dJ7_copyOf_9075b_17 rfl hl (by decide) rfl (fun ls hl => ?_)
  refine lv_aload_n hx hb dJ7_copyOf_9075b_18 rfl (lv_at hl 1 rfl) ?_
  refine lv_iconst (v := 0) hx hb dJ7_copyOf_9075b_19 (by decide) ?_
  refine lv_aload_n hx hb dJ7_copyOf_9075b_20 rfl (lv_at hl 0 rfl) ?_
  refine lv_iconst (v := 0) hx hb dJ7_copyOf_9075b_21 (by decide) ?_
  refine lv_aload_n hx hb dJ7_copyOf_9075b_22 rfl (lv_at hl 1 rfl) ?_
  refine x_alenB (v := nI m) hx hb hB hw q2 (by rw [List.getElem?_append_left (List.getElem?_eq_some_iff.mp hq2).1]; exact hq2) rfl dJ7_copyOf_9075b_23 ?_
  refine lv_iload_n hx hb dJ7_copyOf_9075b_24 rfl (lv_at hl 2 rfl) ?_
  refine va_mmin hx hb (hml.trans hl.1.symm) hown (hts (.methodLink RJ7 304 Lib.Math.min.name) (by decide +kernel)) (hts (.static Lib.Math.min.name) (by decide +kernel)) (hts (.initialized "java/lang/Math") (by decide +kernel)) (hts (.code Lib.Math.min.name Lib.Math.min.code 2 (some .int)) (by decide +kernel)) (Nat.le_of_ble_eq_true rfl) (Nat.le_of_ble_eq_true rfl) (Nat.le_of_ble_eq_true rfl) (show 0 + k ≤ 70 by omega) dJ7_copyOf_9075b_25 ?_
  rw [hmm]
  refine x_copyB hx hb (hml.trans hl.1.symm) hB hw hown (hts (.methodLink RJ7 150 arraycopyName) (by decide +kernel)) (hts (.native arraycopyName) (by decide +kernel)) (hts (.static arraycopyName) (by decide +kernel)) (hts (.initialized "java/lang/System") (by decide +kernel)) q2 X.length (by rw [List.getElem?_append_left (List.getElem?_eq_some_iff.mp hq2).1]; exact hq2) (by rw [List.getElem?_append_right (Nat.le_refl _), Nat.sub_self]; rfl) (by decide) (by decide) (nI_pos (by omega)) (by rw [nI_clamp (show m < 2 ^ 31 by omega), sb_cl0]; omega) (by rw [nI_clamp (show m < 2 ^ 31 by omega), sb_cl0]; omega) hf (Nat.le_of_ble_eq_true rfl) (Nat.le_of_ble_eq_true rfl) dJ7_copyOf_9075b_28 (fun H locs hw => ?_)
  rw [sb_cl0, nI_clamp (show m < 2 ^ 31 by omega)] at hw
  rw [List.set_append_right _ _ (Nat.le_refl _), Nat.sub_self] at hw
  refine lv_aload_n hx hb dJ7_copyOf_9075b_31 rfl (lv_at hl 0 rfl) ?_
  exact x_Jaret hx hb hr (Or.inr ⟨_, rfl⟩) hlk hw rfl (Nat.le_of_ble_eq_true rfl) (show 0 + k ≤ 70 by omega) dJ7_copyOf_9075b_32

abbrev rmJ5_ensureCapacityInternal_d00df : Room := { frames := 3, cells := 1, slots := 70, locals := 130 }
set_option maxRecDepth 100000 in
set_option maxHeartbeats 4000000 in
theorem mJ5_ensure0 {l : Launch} {E : xE} {h v n m : Nat} {ml : Int32} {a : Nat → Int32} (k : Nat) (hM : sbM m) (hf : sb_Fit a) (hk : k ≤ m) (σ : xSt) : xJv l yJ5_ensureCapacityInternal_d00df wsJ5_ensureCapacityInternal_d00df rmJ5_ensureCapacityInternal_d00df E [(h, sbO v ml n), (v, xBytes (E.g.2.2 21) m a)] [.ref h, .int (nI k)] σ (fun X1 => ∃ (v1 m1 : Nat) (a1 : Nat → Int32), X1 = [(h, sbO v1 ml n), (v1, xBytes (E.g.2.2 21) m1 a1)] ∧ sbM m1 ∧ k ≤ m1 ∧ m ≤ m1 ∧ sb_Fit a1 ∧ ∀ j, j < m → a1 j = a j) 1 70 := by
  intro sz
  refine xJ_of (cc := cJ5_ensureCapacityInternal_d00df) (maxL := 3) (ret := none) (QF := fun B => xQv2 E B (fun X1 => ∃ (v1 m1 : Nat) (a1 : Nat → Int32), X1 = [(h, sbO v1 ml n), (v1, xBytes (E.g.2.2 21) m1 a1)] ∧ sbM m1 ∧ k ≤ m1 ∧ m ≤ m1 ∧ sb_Fit a1 ∧ ∀ j, j < m → a1 j = a j) σ) sz (by decide) rfl (Nat.le_of_ble_eq_true rfl) ?_
  intro p e s m9 args below meth c9 A ls ⟨hx, hb, hr, hml, hown, hts, hlk⟩ hnm hA hGL hw hl
  have hown : s.vm.findClass RJ5 = some m9.cls := hown
  have hl : lv_has ls 3 [(0, .ref h), (1, .int (nI k))] := hl
  have hB : ArrOfT s (E.g.2.2 21) .byte ∧ va_RA s (E.g.2.2 21) .byte := hGL.kb
  have hiJ4 : ∀ w ∈ wsJ40, w ∈ wsJ5_ensureCapacityInternal_d00df := by decide +kernel
  have hm70 : m ≤ 70 := by rcases hM with rfl | rfl | rfl <;> decide
  refine lv_aload_n hx hb dJ5_ensureCapacityInternal_d00df_0 rfl (lv_at hl 0 rfl) ?_
  refine x_getX hx hb hw 0 rfl (own := RJ5) (ref := "java/lang/AbstractStringBuilder") (C := RJ4) (T := TJ4) (N := 4) hts hiJ4 hown rfl 0 (by decide) (hts (.fieldLink RJ5 15 "java/lang/AbstractStringBuilder" "value" "[B") (by decide +kernel)) (fun _ h9 => h9) rfl dJ5_ensureCapacityInternal_d00df_1 ?_
  refine x_alenB (v := nI m) hx hb hB hw 1 rfl rfl dJ5_ensureCapacityInternal_d00df_4 ?_
  refine lv_aload_n hx hb dJ5_ensureCapacityInternal_d00df_5 rfl (lv_at hl 0 rfl) ?_
  refine x_getX hx hb hw 0 rfl (own := RJ5) (ref := "java/lang/AbstractStringBuilder") (C := RJ4) (T := TJ4) (N := 4) hts hiJ4 hown rfl 1 (by decide) (hts (.fieldLink RJ5 22 "java/lang/AbstractStringBuilder" "coder" "B") (by decide +kernel)) (fun _ h9 => h9) rfl dJ5_ensureCapacityInternal_d00df_6 ?_
  refine lv_ishr hx hb dJ5_ensureCapacityInternal_d00df_9 ?_
  rw [sb_shr0]
  refine lv_istore_n (lv' := [(2, .int (nI m)), (0, .ref h), (1, .int (nI k))]) hx hb dJ5_ensureCapacityInternal_d00df_10 rfl hl (by decide) rfl (fun ls hl => ?_)
  refine lv_iload_n hx hb dJ5_ensureCapacityInternal_d00df_11 rfl (lv_at hl 2 rfl) ?_
  refine lv_iload_n hx hb dJ5_ensureCapacityInternal_d00df_12 rfl (lv_at hl 0 rfl) ?_
  refine lv_isub hx hb dJ5_ensureCapacityInternal_d00df_13 ?_
  refine lv_if_le (tgt := 38) hx hb dJ5_ensureCapacityInternal_d00df_14 (by decide) (fun _ => ?_) (fun cx => absurd (by rw [Int32.le_iff_toInt_le, pk_sub_toInt (show k < 2 ^ 30 by omega) (show m < 2 ^ 30 by omega), Int32.toInt_zero]; omega) cx)
  exact x_Jvret hx hb hr hlk hw ⟨v, m, a, rfl, hM, hk, Nat.le_refl _, hf, fun _ _ => rfl⟩ (Nat.le_of_ble_eq_true rfl) (Nat.le_of_ble_eq_true rfl) dJ5_ensureCapacityInternal_d00df_38

set_option maxRecDepth 100000 in
set_option maxHeartbeats 4000000 in
theorem mJ5_ensure1 {l : Launch} {E : xE} {h v n m : Nat} {ml : Int32} {a : Nat → Int32} (k : Nat) (hM : sbM m) (hf : sb_Fit a) (hk : m < k) (hk2 : k ≤ m + 2) (hk3 : k ≤ 50) (σ : xSt) : xJv l yJ5_ensureCapacityInternal_d00df wsJ5_ensureCapacityInternal_d00df rmJ5_ensureCapacityInternal_d00df E [(h, sbO v ml n), (v, xBytes (E.g.2.2 21) m a)] [.ref h, .int (nI k)] σ (fun X1 => ∃ (v1 m1 : Nat) (a1 : Nat → Int32), X1 = [(h, sbO v1 ml n), (v1, xBytes (E.g.2.2 21) m1 a1)] ∧ sbM m1 ∧ k ≤ m1 ∧ m ≤ m1 ∧ sb_Fit a1 ∧ ∀ j, j < m → a1 j = a j) 1 70 := by
  intro sz
  refine xJ_of (cc := cJ5_ensureCapacityInternal_d00df) (maxL := 3) (ret := none) (QF := fun B => xQv2 E B (fun X1 => ∃ (v1 m1 : Nat) (a1 : Nat → Int32), X1 = [(h, sbO v1 ml n), (v1, xBytes (E.g.2.2 21) m1 a1)] ∧ sbM m1 ∧ k ≤ m1 ∧ m ≤ m1 ∧ sb_Fit a1 ∧ ∀ j, j < m → a1 j = a j) σ) sz (by decide) rfl (Nat.le_of_ble_eq_true rfl) ?_
  intro p e s m9 args below meth c9 A ls ⟨hx, hb, hr, hml, hown, hts, hlk⟩ hnm hA hGL hw hl
  have hown : s.vm.findClass RJ5 = some m9.cls := hown
  have hl : lv_has ls 3 [(0, .ref h), (1, .int (nI k))] := hl
  have hB : ArrOfT s (E.g.2.2 21) .byte ∧ va_RA s (E.g.2.2 21) .byte := hGL.kb
  have hiJ4 : ∀ w ∈ wsJ40, w ∈ wsJ5_ensureCapacityInternal_d00df := by decide +kernel
  have hm34 : m ≤ 34 := by rcases hM with rfl | rfl | rfl <;> omega
  refine lv_aload_n hx hb dJ5_ensureCapacityInternal_d00df_0 rfl (lv_at hl 0 rfl) ?_
  refine x_getX hx hb hw 0 rfl (own := RJ5) (ref := "java/lang/AbstractStringBuilder") (C := RJ4) (T := TJ4) (N := 4) hts hiJ4 hown rfl 0 (by decide) (hts (.fieldLink RJ5 15 "java/lang/AbstractStringBuilder" "value" "[B") (by decide +kernel)) (fun _ h9 => h9) rfl dJ5_ensureCapacityInternal_d00df_1 ?_
  refine x_alenB (v := nI m) hx hb hB hw 1 rfl rfl dJ5_ensureCapacityInternal_d00df_4 ?_
  refine lv_aload_n hx hb dJ5_ensureCapacityInternal_d00df_5 rfl (lv_at hl 0 rfl) ?_
  refine x_getX hx hb hw 0 rfl (own := RJ5) (ref := "java/lang/AbstractStringBuilder") (C := RJ4) (T := TJ4) (N := 4) hts hiJ4 hown rfl 1 (by decide) (hts (.fieldLink RJ5 22 "java/lang/AbstractStringBuilder" "coder" "B") (by decide +kernel)) (fun _ h9 => h9) rfl dJ5_ensureCapacityInternal_d00df_6 ?_
  refine lv_ishr hx hb dJ5_ensureCapacityInternal_d00df_9 ?_
  rw [sb_shr0]
  refine lv_istore_n (lv' := [(2, .int (nI m)), (0, .ref h), (1, .int (nI k))]) hx hb dJ5_ensureCapacityInternal_d00df_10 rfl hl (by decide) rfl (fun ls hl => ?_)
  refine lv_iload_n hx hb dJ5_ensureCapacityInternal_d00df_11 rfl (lv_at hl 2 rfl) ?_
  refine lv_iload_n hx hb dJ5_ensureCapacityInternal_d00df_12 rfl (lv_at hl 0 rfl) ?_
  refine lv_isub hx hb dJ5_ensureCapacityInternal_d00df_13 ?_
  refine lv_if_le (tgt := 38) hx hb dJ5_ensureCapacityInternal_d00df_14 (by decide) (fun cx => absurd cx (by rw [Int32.le_iff_toInt_le, pk_sub_toInt (show k < 2 ^ 30 by omega) (show m < 2 ^ 30 by omega), Int32.toInt_zero]; omega)) (fun _ => ?_)
  refine lv_aload_n hx hb dJ5_ensureCapacityInternal_d00df_17 rfl (lv_at hl 1 rfl) ?_
  refine lv_aload_n hx hb dJ5_ensureCapacityInternal_d00df_18 rfl (lv_at hl 1 rfl) ?_
  refine x_getX hx hb hw 0 rfl (own := RJ5) (ref := "java/lang/AbstractStringBuilder") (C := RJ4) (T := TJ4) (N := 4) hts hiJ4 hown rfl 0 (by decide) (hts (.fieldLink RJ5 15 "java/lang/AbstractStringBuilder" "value" "[B") (by decide +kernel)) (fun _ h9 => h9) rfl dJ5_ensureCapacityInternal_d00df_19 ?_
  refine lv_aload_n hx hb dJ5_ensureCapacityInternal_d00df_22 rfl (lv_at hl 1 rfl) ?_
  refine lv_iload_n hx hb dJ5_ensureCapacityInternal_d00df_23 rfl (lv_at hl 2 rfl) ?_
  refine x_callLi (va_runU (As := [.int (nI k)]) (rest := [.ref v, .ref h]) ⟨hx, hb, hml, hown, hts⟩ (mJ5_newCapacity (E := E) (X := [(h, sbO v ml n), (v, xBytes (E.g.2.2 21) m a)]) 0 1 rfl rfl k (by omega) hk2 (by omega) σ s.heap.size) (va_cwU 1 hts gJ5_ensureCapacityInternal_d00df_J5_newCapacity_0f7a4_u104J4 rfl rfl rfl rfl (by decide +kernel) ⟨(Nat.le_of_ble_eq_true rfl), (Nat.le_of_ble_eq_true rfl)⟩) (x_preLX _ hw hA hGL (q := 0) rfl rfl) rfl rfl hl.1 rfl (lv_room (Nat.le_of_ble_eq_true rfl)) dJ5_ensureCapacityInternal_d00df_24 ⟨(Nat.le_of_ble_eq_true rfl), (Nat.le_of_ble_eq_true rfl)⟩) hw hA (fun H locs hw => ?_)
  refine lv_aload_n hx hb dJ5_ensureCapacityInternal_d00df_27 rfl (lv_at hl 1 rfl) ?_
  refine x_getX hx hb hw 0 rfl (own := RJ5) (ref := "java/lang/AbstractStringBuilder") (C := RJ4) (T := TJ4) (N := 4) hts hiJ4 hown rfl 1 (by decide) (hts (.fieldLink RJ5 22 "java/lang/AbstractStringBuilder" "coder" "B") (by decide +kernel)) (fun _ h9 => h9) rfl dJ5_ensureCapacityInternal_d00df_28 ?_
  refine lv_ishl hx hb dJ5_ensureCapacityInternal_d00df_31 ?_
  rw [sb_shl0]
  refine x_callJr (va_runS (As := [.ref v, .int (nI (m + (m + 2)))]) (rest := [.ref h]) ⟨hx, hb, hml, hown, hts⟩ (mJ7_copyOf (E := E) (X := [(h, sbO v ml n), (v, xBytes (E.g.2.2 21) m a)]) 1 rfl (m + (m + 2)) (by omega) (by omega) hf σ H.size) (va_cwS 2 hts gJ5_ensureCapacityInternal_d00df_J7_copyOf_9075b rfl rfl rfl (by decide +kernel) ⟨(Nat.le_of_ble_eq_true rfl), (Nat.le_of_ble_eq_true rfl)⟩) (x_preLS _ hw hA hGL) rfl rfl hl.1 rfl (lv_room (Nat.le_of_ble_eq_true rfl)) dJ5_ensureCapacityInternal_d00df_32 ⟨(Nat.le_of_ble_eq_true rfl), (Nat.le_of_ble_eq_true rfl)⟩) hw hA (fun X1 r H locs hX hw => ?_)
  subst hX
  have hw : xw (xPlus E [(h, sbO v ml n), (v, xBytes (E.g.2.2 21) m a), (r, xBytes (E.g.2.2 21) (m + (m + 2)) (va_cpy a (fun _ => 0) 0 0 m))]) A s.heap s σ H locs := hw
  refine x_putX hx hb hw 0 rfl (own := RJ5) (ref := "java/lang/AbstractStringBuilder") (C := RJ4) (T := TJ4) (N := 4) hts hiJ4 tyJ4 tyJ4_ok nmJ4 hown rfl 0 (by decide) (hts (.fieldLink RJ5 15 "java/lang/AbstractStringBuilder" "value" "[B") (by decide +kernel)) (fun _ h9 => h9) rfl (tyJ4_ok 0 (by decide)) rfl rfl (Nat.le_of_ble_eq_true rfl) dJ5_ensureCapacityInternal_d00df_35 (fun H locs hw => ?_)
  replace hw : xw (xPlus E ((h, .inr (15, [.ref r, .int 0, .int ml, .int (nI n)])) :: (v, xBytes (E.g.2.2 21) m a) :: (r, xBytes (E.g.2.2 21) (m + (m + 2)) (va_cpy a (fun _ => 0) 0 0 m)) :: [])) A s.heap s σ H locs := hw
  replace hw := xw_pick (Y := [(h, sbO r ml n), (r, xBytes (E.g.2.2 21) (m + (m + 2)) (va_cpy a (fun _ => 0) 0 0 m))]) hw [0, 2] rfl (by decide)
  exact x_Jvret hx hb hr hlk hw ⟨r, m + (m + 2), va_cpy a (fun _ => 0) 0 0 m, rfl, by rcases hM with rfl | rfl | rfl; exact Or.inr (Or.inl rfl); exact Or.inr (Or.inr rfl); omega, by omega, by omega, sb_fitC hf sb_fit0, fun j hj => sb_cpy0 hj⟩ (Nat.le_of_ble_eq_true rfl) (Nat.le_of_ble_eq_true rfl) dJ5_ensureCapacityInternal_d00df_38

theorem mJ5_ensure {l : Launch} {E : xE} {h v n m : Nat} {ml : Int32} {a : Nat → Int32} (k : Nat) (hM : sbM m) (hf : sb_Fit a) (hk2 : k ≤ m + 2) (hk3 : k ≤ 50) (σ : xSt) : xJv l yJ5_ensureCapacityInternal_d00df wsJ5_ensureCapacityInternal_d00df rmJ5_ensureCapacityInternal_d00df E [(h, sbO v ml n), (v, xBytes (E.g.2.2 21) m a)] [.ref h, .int (nI k)] σ (fun X1 => ∃ (v1 m1 : Nat) (a1 : Nat → Int32), X1 = [(h, sbO v1 ml n), (v1, xBytes (E.g.2.2 21) m1 a1)] ∧ sbM m1 ∧ k ≤ m1 ∧ m ≤ m1 ∧ sb_Fit a1 ∧ ∀ j, j < m → a1 j = a j) 1 70 := by
  by_cases hk : k ≤ m
  · exact mJ5_ensure0 k hM hf hk σ
  · exact mJ5_ensure1 k hM hf (by omega) hk2 hk3 σ
