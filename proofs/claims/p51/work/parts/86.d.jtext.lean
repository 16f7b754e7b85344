/-! ===== THE JDK'S TEXTS: new StringBuilder, toString, charAt ===== -/
abbrev sbN : va_E := .inr (15, [.null, .int 0, .int 0, .int 0])
abbrev soN : va_E := .inr (14, [.null, .int 0, .int 0, .int 0])

theorem chNar {c0 : Nat} (h : c0 < 256) : narrow .char (.int (nI c0)) = .int (nI c0) := by
  have h0 : ∀ c, c < 256 → vp_nar .char (nI c) = nI c := by decide +kernel
  exact congrArg Value.int (h0 c0 h)

abbrev rmJ5_init_d00df : Room := { frames := 1, cells := 1, slots := 16, locals := 40 }
set_option maxRecDepth 100000 in
set_option maxHeartbeats 4000000 in
theorem mJ5_init {l : Launch} {E : xE} (h : Nat) (σ : xSt) : xJv l yJ5_init_d00df wsJ5_init_d00df rmJ5_init_d00df E [(h, sbN)] [.ref h, .int 16] σ (fun X1 => sbP h (E.g.2.2 21) 0 (fun _ => 0) X1) 1 16 := by
  intro sz
  refine xJ_of (cc := cJ5_init_d00df) (maxL := 2) (ret := none) (QF := fun B => xQv2 E B (fun X1 => sbP h (E.g.2.2 21) 0 (fun _ => 0) X1) σ) sz (by decide) rfl (Nat.le_of_ble_eq_true rfl) ?_
  intro p e s m9 args below meth c9 A ls ⟨hx, hb, hr, hml, hown, hts, hlk⟩ hnm hA hGL hw hl
  have hown : s.vm.findClass RJ5 = some m9.cls := hown
  have hl : lv_has ls 2 [(0, .ref h), (1, .int 16)] := hl
  have hB : ArrOfT s (E.g.2.2 21) .byte ∧ va_RA s (E.g.2.2 21) .byte := hGL.kb
  have hiJ4 : ∀ w ∈ wsJ40, w ∈ wsJ5_init_d00df := by decide +kernel
  refine lv_aload_n hx hb dJ5_init_d00df_0 rfl (lv_at hl 0 rfl) ?_
  refine W.objInit hx hb hown (hts (.methodLink RJ5 3 objectInit) (by decide +kernel)) (hts (.instanceMethod objectInit) (by decide +kernel)) (hts (.code objectInit ⟨#[0xb1]⟩ 1 none) (by decide +kernel)) rfl (by rw [hml]; exact hl.1) rfl dJ5_init_d00df_1 (Nat.le_of_ble_eq_true rfl) (Nat.le_of_ble_eq_true rfl) ?_
  change W _ _ _ _ _ _ _ _ _ _ _ _ _ _ _ (F0 m9 4 ls [])
  refine va_gets hx hb hGL.2.2.2.2.2.2.1 hw.2.2.2 hown (hts (.fieldLink RJ5 18 "java/lang/String" "COMPACT_STRINGS" "Z") (by decide +kernel)) (fun _ h9 => h9) dJ5_init_d00df_4 ?_
  refine lv_if_eq (tgt := 25) hx hb dJ5_init_d00df_7 (by decide) (fun cx => absurd cx (by decide)) (fun _ => ?_)
  refine lv_aload_n hx hb dJ5_init_d00df_10 rfl (lv_at hl 0 rfl) ?_
  refine lv_iload_n hx hb dJ5_init_d00df_11 rfl (lv_at hl 1 rfl) ?_
  refine x_newB hx hb (hts (.arrayClass .byte) (by decide +kernel)) hB hw hA (n := 16) (N' := 16) (by decide) (by decide) (by decide) (Nat.le_of_ble_eq_true rfl) (Nat.le_of_ble_eq_true rfl) dJ5_init_d00df_12 (fun r H hw => ?_)
  replace hw : xw (xPlus E ((h, sbN) :: (r, xBytes (E.g.2.2 21) 16 (fun _ => 0)) :: [])) A s.heap s σ H [] := hw
  refine x_putX hx hb hw 0 rfl (own := RJ5) (ref := "java/lang/AbstractStringBuilder") (C := RJ4) (T := TJ4) (N := 4) hts hiJ4 tyJ4 tyJ4_ok nmJ4 hown rfl 0 (by decide) (hts (.fieldLink RJ5 15 "java/lang/AbstractStringBuilder" "value" "[B") (by decide +kernel)) (fun _ h9 => h9) rfl (tyJ4_ok 0 (by decide)) rfl rfl (Nat.le_of_ble_eq_true rfl) dJ5_init_d00df_14 (fun H locs hw => ?_)
  replace hw : xw (xPlus E ((h, .inr (15, [.ref r, .int 0, .int 0, .int 0])) :: (r, xBytes (E.g.2.2 21) 16 (fun _ => 0)) :: [])) A s.heap s σ H locs := hw
  refine lv_aload_n hx hb dJ5_init_d00df_17 rfl (lv_at hl 0 rfl) ?_
  refine lv_iconst (v := 0) hx hb dJ5_init_d00df_18 (by decide) ?_
  refine x_putX hx hb hw 0 rfl (own := RJ5) (ref := "java/lang/AbstractStringBuilder") (C := RJ4) (T := TJ4) (N := 4) hts hiJ4 tyJ4 tyJ4_ok nmJ4 hown rfl 1 (by decide) (hts (.fieldLink RJ5 22 "java/lang/AbstractStringBuilder" "coder" "B") (by decide +kernel)) (fun _ h9 => h9) rfl (tyJ4_ok 1 (by decide)) rfl rfl (Nat.le_of_ble_eq_true rfl) dJ5_init_d00df_19 (fun H locs hw => ?_)
  replace hw : xw (xPlus E ((h, .inr (15, [.ref r, .int 0, .int 0, .int 0])) :: (r, xBytes (E.g.2.2 21) 16 (fun _ => 0)) :: [])) A s.heap s σ H locs := hw
  refine lv_goto (tgt := 38) hx hb dJ5_init_d00df_22 (by decide) ?_
  exact x_Jvret hx hb hr hlk hw ⟨r, 16, 0, fun _ => 0, rfl, Or.inl rfl, by decide, sb_fit0, fun j hj => absurd hj (Nat.not_lt_zero j)⟩ (Nat.le_of_ble_eq_true rfl) (Nat.le_of_ble_eq_true rfl) dJ5_init_d00df_38

abbrev rmJ4_init_da8c8 : Room := { frames := 2, cells := 1, slots := 16, locals := 80 }
set_option maxRecDepth 100000 in
set_option maxHeartbeats 4000000 in
theorem mJ4_init {l : Launch} {E : xE} (h : Nat) (σ : xSt) : xJv l yJ4_init_da8c8 wsJ4_init_da8c8 rmJ4_init_da8c8 E [(h, sbN)] [.ref h] σ (fun X1 => sbP h (E.g.2.2 21) 0 (fun _ => 0) X1) 1 16 := by
  intro sz
  refine xJ_of (cc := cJ4_init_da8c8) (maxL := 1) (ret := none) (QF := fun B => xQv2 E B (fun X1 => sbP h (E.g.2.2 21) 0 (fun _ => 0) X1) σ) sz (by decide) rfl (Nat.le_of_ble_eq_true rfl) ?_
  intro p e s m9 args below meth c9 A ls ⟨hx, hb, hr, hml, hown, hts, hlk⟩ hnm hA hGL hw hl
  have hown : s.vm.findClass RJ4 = some m9.cls := hown
  have hl : lv_has ls 1 [(0, .ref h)] := hl
  have hB : ArrOfT s (E.g.2.2 21) .byte ∧ va_RA s (E.g.2.2 21) .byte := hGL.kb
  refine lv_aload_n hx hb dJ4_init_da8c8_0 rfl (lv_at hl 0 rfl) ?_
  refine lv_bipush (v := 16) hx hb dJ4_init_da8c8_1 (by decide) ?_
  refine x_callJv (va_runI (As := [.int 16]) (rest := []) ⟨hx, hb, hml, hown, hts⟩ (mJ5_init (E := E) h σ s.heap.size) (cwI 1 hts gJ4_init_da8c8_J5_init_d00df rfl rfl rfl (hts (.initialized RJ5) (by decide +kernel)) (hts (.methodLink RJ4 1 yJ5_init_d00df) (by decide +kernel)) (hts (.instanceMethod yJ5_init_d00df) (by decide +kernel)) rfl (by decide +kernel) ⟨(Nat.le_of_ble_eq_true rfl), (Nat.le_of_ble_eq_true rfl)⟩) (x_preLS _ hw hA hGL) rfl rfl hl.1 rfl (lv_room (Nat.le_of_ble_eq_true rfl)) dJ4_init_da8c8_3 ⟨(Nat.le_of_ble_eq_true rfl), (Nat.le_of_ble_eq_true rfl)⟩) hw hA (fun X1 H locs hX hw => ?_)
  exact x_Jvret hx hb hr hlk hw hX (Nat.le_of_ble_eq_true rfl) (Nat.le_of_ble_eq_true rfl) dJ4_init_da8c8_6

abbrev rmJ7_checkLength_df160 : Room := { frames := 0, cells := 0, slots := 0, locals := 0 }
set_option maxRecDepth 100000 in
set_option maxHeartbeats 4000000 in
theorem mJ7_checkLength {l : Launch} {E : xE} {X : va_W} (a b : Nat) (hab : a ≤ b) (hb2 : b ≤ 1000) (σ : xSt) : xJv l yJ7_checkLength_df160 wsJ7_checkLength_df160 rmJ7_checkLength_df160 E X [.int (nI a), .int (nI b)] σ (fun X1 => X1 = X) 0 0 := by
  intro sz
  refine xJ_of (cc := cJ7_checkLength_df160) (maxL := 2) (ret := none) (QF := fun B => xQv2 E B (fun X1 => X1 = X) σ) sz (by decide) rfl (Nat.le_of_ble_eq_true rfl) ?_
  intro p e s m9 args below meth c9 A ls ⟨hx, hb, hr, hml, hown, hts, hlk⟩ hnm hA hGL hw hl
  have hown : s.vm.findClass RJ7 = some m9.cls := hown
  have hl : lv_has ls 2 [(0, .int (nI a)), (1, .int (nI b))] := hl
  have hB : ArrOfT s (E.g.2.2 21) .byte ∧ va_RA s (E.g.2.2 21) .byte := hGL.kb
  refine lv_iload_n hx hb dJ7_checkLength_df160_0 rfl (lv_at hl 1 rfl) ?_
  refine lv_iload_n hx hb dJ7_checkLength_df160_1 rfl (lv_at hl 0 rfl) ?_
  refine lv_icmp_ge (tgt := 37) hx hb dJ7_checkLength_df160_2 (by decide) (fun _ => ?_) (fun cx => absurd (nI_le hab (by omega)) cx)
  exact x_Jvret hx hb hr hlk hw rfl (Nat.le_of_ble_eq_true rfl) (Nat.le_of_ble_eq_true rfl) dJ7_checkLength_df160_37

abbrev rmJ7_copyOfRangeByte_39247 : Room := { frames := 1, cells := 1, slots := 70, locals := 80 }
set_option maxRecDepth 100000 in
set_option maxHeartbeats 4000000 in
theorem mJ7_copyRangeB {l : Launch} {E : xE} {X : va_W} (q2 : Nat) {v m : Nat} {a : Nat → Int32} (hq2 : X[q2]? = some (v, xBytes (E.g.2.2 21) m a)) (n : Nat) (h1 : n ≤ m) (h2 : m ≤ 70) (hf : sb_Fit a) (σ : xSt) : xJr l yJ7_copyOfRangeByte_39247 wsJ7_copyOfRangeByte_39247 rmJ7_copyOfRangeByte_39247 E X [.ref v, .int 0, .int (nI n)] σ (fun X1 r => X1 = (X ++ [(r, xBytes (E.g.2.2 21) n (va_cpy a (fun _ => 0) 0 0 n))])) 1 70 := by
  intro sz
  refine xJ_of (cc := cJ7_copyOfRangeByte_39247) (maxL := 5) (ret := (some (.array .byte))) (QF := fun B => xQr2 E B (fun X1 r => X1 = (X ++ [(r, xBytes (E.g.2.2 21) n (va_cpy a (fun _ => 0) 0 0 n))])) σ) sz (by decide) rfl (Nat.le_of_ble_eq_true rfl) ?_
  intro p e s m9 args below meth c9 A ls ⟨hx, hb, hr, hml, hown, hts, hlk⟩ hnm hA hGL hw hl
  have hown : s.vm.findClass RJ7 = some m9.cls := hown
  have hl : lv_has ls 5 [(0, .ref v), (1, .int 0), (2, .int (nI n))] := hl
  have hB : ArrOfT s (E.g.2.2 21) .byte ∧ va_RA s (E.g.2.2 21) .byte := hGL.kb
  have hmm : (if nI n < nI m then nI n else nI m) = nI n := by
    by_cases hnm : n < m
    · exact if_pos (nI_lt hnm (by omega))
    · obtain rfl : n = m := by omega
      exact ite_self _
  refine lv_iload_n hx hb dJ7_copyOfRangeByte_39247_0 rfl (lv_at hl 1 rfl) ?_
  refine lv_iload_n hx hb dJ7_copyOfRangeByte_39247_1 rfl (lv_at hl 2 rfl) ?_
  refine x_callJv (va_runS (As := [.int 0, .int (nI n)]) (rest := []) ⟨hx, hb, hml, hown, hts⟩ (mJ7_checkLength (E := E) (X := X) 0 n (by omega) (by omega) σ s.heap.size) (va_cwS 2 hts gJ7_copyOfRangeByte_39247_J7_checkLength_df160 rfl rfl rfl (by decide +kernel) ⟨(Nat.le_of_ble_eq_true rfl), (Nat.le_of_ble_eq_true rfl)⟩) (x_preLS _ hw hA hGL) rfl rfl hl.1 rfl (lv_room (Nat.le_of_ble_eq_true rfl)) dJ7_copyOfRangeByte_39247_2 ⟨(Nat.le_of_ble_eq_true rfl), (Nat.le_of_ble_eq_true rfl)⟩) hw hA (fun X1 H locs hX hw => ?_)
  rw [hX] at hw
  refine lv_iload_n hx hb dJ7_copyOfRangeByte_39247_5 rfl (lv_at hl 2 rfl) ?_
  refine lv_iload_n hx hb dJ7_copyOfRangeByte_39247_6 rfl (lv_at hl 1 rfl) ?_
  refine lv_isub hx hb dJ7_copyOfRangeByte_39247_7 ?_
  rw [show nI n - 0 = nI n from Int32.sub_zero _]
  refine lv_istore_n (lv' := [(3, .int (nI n)), (0, .ref v), (1, .int 0), (2, .int (nI n))]) hx hb dJ7_copyOfRangeByte_39247_8 rfl hl (by decide) rfl (fun ls hl => ?_)
  refine lv_iload_n hx hb dJ7_copyOfRangeByte_39247_9 rfl (lv_at hl 0 rfl) ?_
  refine x_newB hx hb (hts (.arrayClass .byte) (by decide +kernel)) hB hw hA (n := nI n) (N' := n) (nI_pos (by omega)) (nI_clamp (by omega)) (by omega) (Nat.le_of_ble_eq_true rfl) (by show 0 + 0 + n ≤ 70; omega) dJ7_copyOfRangeByte_39247_10 (fun r H hw => ?_)
  refine lv_astore (lv' := [(4, .ref r), (3, .int (nI n)), (0, .ref v), (1, .int 0), (2, .int (nI n))]) hx hb dJ7_copyOfRangeByte_39247_12 hl (by decide) rfl (fun ls hl => ?_)
  refine lv_aload_n hx hb dJ7_copyOfRangeByte_39247_14 rfl (lv_at hl 2 rfl) ?_
  refine lv_iload_n hx hb dJ7_copyOfRangeByte_39247_15 rfl (lv_at hl 3 rfl) ?_
  refine lv_aload hx hb dJ7_copyOfRangeByte_39247_16 (lv_at hl 0 rfl) ?_
  refine lv_iconst (v := 0) hx hb dJ7_copyOfRangeByte_39247_18 (by decide) ?_
  refine lv_aload_n hx hb dJ7_copyOfRangeByte_39247_19 rfl (lv_at hl 2 rfl) ?_
  refine x_alenB (v := nI m) hx hb hB hw q2 (by rw [List.getElem?_append_left (List.getElem?_eq_some_iff.mp hq2).1]; exact hq2) rfl dJ7_copyOfRangeByte_39247_20 ?_
  refine lv_iload_n hx hb dJ7_copyOfRangeByte_39247_21 rfl (lv_at hl 3 rfl) ?_
  refine lv_isub hx hb dJ7_copyOfRangeByte_39247_22 ?_
  rw [show nI m - 0 = nI m from Int32.sub_zero _]
  refine lv_iload_n hx hb dJ7_copyOfRangeByte_39247_23 rfl (lv_at hl 1 rfl) ?_
  refine va_mmin hx hb (hml.trans hl.1.symm) hown (hts (.methodLink RJ7 304 Lib.Math.min.name) (by decide +kernel)) (hts (.static Lib.Math.min.name) (by decide +kernel)) (hts (.initialized "java/lang/Math") (by decide +kernel)) (hts (.code Lib.Math.min.name Lib.Math.min.code 2 (some .int)) (by decide +kernel)) (Nat.le_of_ble_eq_true rfl) (Nat.le_of_ble_eq_true rfl) (Nat.le_of_ble_eq_true rfl) (by show 0 + 0 + n ≤ 70; omega) dJ7_copyOfRangeByte_39247_24 ?_
  rw [hmm]
  refine x_copyB hx hb (hml.trans hl.1.symm) hB hw hown (hts (.methodLink RJ7 150 arraycopyName) (by decide +kernel)) (hts (.native arraycopyName) (by decide +kernel)) (hts (.static arraycopyName) (by decide +kernel)) (hts (.initialized "java/lang/System") (by decide +kernel)) q2 X.length (by rw [List.getElem?_append_left (List.getElem?_eq_some_iff.mp hq2).1]; exact hq2) (by rw [List.getElem?_append_right (Nat.le_refl _), Nat.sub_self]; rfl) (by decide) (by decide) (nI_pos (by omega)) (by rw [nI_clamp (show n < 2 ^ 31 by omega), sb_cl0]; omega) (by rw [nI_clamp (show n < 2 ^ 31 by omega), sb_cl0]; omega) hf (Nat.le_of_ble_eq_true rfl) (Nat.le_of_ble_eq_true rfl) dJ7_copyOfRangeByte_39247_27 (fun H locs hw => ?_)
  rw [sb_cl0, nI_clamp (show n < 2 ^ 31 by omega)] at hw
  rw [List.set_append_right _ _ (Nat.le_refl _), Nat.sub_self] at hw
  refine lv_aload hx hb dJ7_copyOfRangeByte_39247_30 (lv_at hl 0 rfl) ?_
  exact x_Jaret hx hb hr (Or.inr ⟨_, rfl⟩) hlk hw rfl (Nat.le_of_ble_eq_true rfl) (by show 0 + 0 + n ≤ 70; omega) dJ7_copyOfRangeByte_39247_32

abbrev rmJ7_copyOfRange_39247 : Room := { frames := 2, cells := 1, slots := 70, locals := 120 }
set_option maxRecDepth 100000 in
set_option maxHeartbeats 4000000 in
theorem mJ7_copyRange1 {l : Launch} {E : xE} {X : va_W} (q2 : Nat) {v m : Nat} {a : Nat → Int32} (hq2 : X[q2]? = some (v, xBytes (E.g.2.2 21) m a)) (n : Nat) (h1 : n ≤ m) (h2 : m ≤ 70) (h3 : n ≠ m) (hf : sb_Fit a) (σ : xSt) : xJr l yJ7_copyOfRange_39247 wsJ7_copyOfRange_39247 rmJ7_copyOfRange_39247 E X [.ref v, .int 0, .int (nI n)] σ (fun X1 r => ∃ b : Nat → Int32, X1 = X ++ [(r, xBytes (E.g.2.2 21) n b)] ∧ ∀ j, j < n → b j = a j) 1 70 := by
  intro sz
  refine xJ_of (cc := cJ7_copyOfRange_39247) (maxL := 3) (ret := (some (.array .byte))) (QF := fun B => xQr2 E B (fun X1 r => ∃ b : Nat → Int32, X1 = X ++ [(r, xBytes (E.g.2.2 21) n b)] ∧ ∀ j, j < n → b j = a j) σ) sz (by decide) rfl (Nat.le_of_ble_eq_true rfl) ?_
  intro p e s m9 args below meth c9 A ls ⟨hx, hb, hr, hml, hown, hts, hlk⟩ hnm hA hGL hw hl
  have hown : s.vm.findClass RJ7 = some m9.cls := hown
  have hl : lv_has ls 3 [(0, .ref v), (1, .int 0), (2, .int (nI n))] := hl
  have hB : ArrOfT s (E.g.2.2 21) .byte ∧ va_RA s (E.g.2.2 21) .byte := hGL.kb
  refine lv_iload_n hx hb dJ7_copyOfRange_39247_0 rfl (lv_at hl 1 rfl) ?_
  refine lv_if_ne (tgt := 10) hx hb dJ7_copyOfRange_39247_1 (by decide) (fun cx => absurd (by decide) cx) (fun _ => ?_)
  refine lv_iload_n hx hb dJ7_copyOfRange_39247_4 rfl (lv_at hl 2 rfl) ?_
  refine lv_aload_n hx hb dJ7_copyOfRange_39247_5 rfl (lv_at hl 0 rfl) ?_
  refine x_alenB (v := nI m) hx hb hB hw q2 hq2 rfl dJ7_copyOfRange_39247_6 ?_
  refine lv_icmp_eq (tgt := 17) hx hb dJ7_copyOfRange_39247_7 (by decide) (fun cx => absurd cx (fun z => by have := (nI_eq (a := n) (b := m) (by omega) (by omega)).mp z; omega)) (fun _ => ?_)
  refine lv_aload_n hx hb dJ7_copyOfRange_39247_10 rfl (lv_at hl 0 rfl) ?_
  refine lv_iload_n hx hb dJ7_copyOfRange_39247_11 rfl (lv_at hl 1 rfl) ?_
  refine lv_iload_n hx hb dJ7_copyOfRange_39247_12 rfl (lv_at hl 2 rfl) ?_
  refine x_callJr (va_runS (As := [.ref v, .int 0, .int (nI n)]) (rest := []) ⟨hx, hb, hml, hown, hts⟩ (mJ7_copyRangeB (E := E) (X := X) q2 hq2 n h1 h2 hf σ s.heap.size) (va_cwS 3 hts gJ7_copyOfRange_39247_J7_copyOfRangeByte_39247 rfl rfl rfl (by decide +kernel) ⟨(Nat.le_of_ble_eq_true rfl), (Nat.le_of_ble_eq_true rfl)⟩) (x_preLS _ hw hA hGL) rfl rfl hl.1 rfl (lv_room (Nat.le_of_ble_eq_true rfl)) dJ7_copyOfRange_39247_13 ⟨(Nat.le_of_ble_eq_true rfl), (Nat.le_of_ble_eq_true rfl)⟩) hw hA (fun X1 r H locs hX hw => ?_)
  rw [hX] at hw
  exact x_Jaret hx hb hr (Or.inr ⟨_, rfl⟩) hlk hw ⟨_, rfl, fun j hj => sb_cpy0 hj⟩ (Nat.le_of_ble_eq_true rfl) (Nat.le_of_ble_eq_true rfl) dJ7_copyOfRange_39247_16

set_option maxRecDepth 100000 in
set_option maxHeartbeats 4000000 in
theorem mJ7_copyRange0 {l : Launch} {E : xE} {X : va_W} (q2 : Nat) {v n : Nat} {a : Nat → Int32} (hq2 : X[q2]? = some (v, xBytes (E.g.2.2 21) n a)) (h2 : n ≤ 70) (hf : sb_Fit a) (σ : xSt) : xJr l yJ7_copyOfRange_39247 wsJ7_copyOfRange_39247 rmJ7_copyOfRange_39247 E X [.ref v, .int 0, .int (nI n)] σ (fun X1 r => ∃ b : Nat → Int32, X1 = X ++ [(r, xBytes (E.g.2.2 21) n b)] ∧ ∀ j, j < n → b j = a j) 1 70 := by
  intro sz
  refine xJ_of (cc := cJ7_copyOfRange_39247) (maxL := 3) (ret := (some (.array .byte))) (QF := fun B => xQr2 E B (fun X1 r => ∃ b : Nat → Int32, X1 = X ++ [(r, xBytes (E.g.2.2 21) n b)] ∧ ∀ j, j < n → b j = a j) σ) sz (by decide) rfl (Nat.le_of_ble_eq_true rfl) ?_
  intro p e s m9 args below meth c9 A ls ⟨hx, hb, hr, hml, hown, hts, hlk⟩ hnm hA hGL hw hl
  have hown : s.vm.findClass RJ7 = some m9.cls := hown
  have hl : lv_has ls 3 [(0, .ref v), (1, .int 0), (2, .int (nI n))] := hl
  have hB : ArrOfT s (E.g.2.2 21) .byte ∧ va_RA s (E.g.2.2 21) .byte := hGL.kb
  have hnm2 : s.vm.findClass "[B" = some (E.g.2.2 21) := by rw [← xB_str]; exact hB.2
  refine lv_iload_n hx hb dJ7_copyOfRange_39247_0 rfl (lv_at hl 1 rfl) ?_
  refine lv_if_ne (tgt := 10) hx hb dJ7_copyOfRange_39247_1 (by decide) (fun cx => absurd (by decide) cx) (fun _ => ?_)
  refine lv_iload_n hx hb dJ7_copyOfRange_39247_4 rfl (lv_at hl 2 rfl) ?_
  refine lv_aload_n hx hb dJ7_copyOfRange_39247_5 rfl (lv_at hl 0 rfl) ?_
  refine x_alenB (v := nI n) hx hb hB hw q2 hq2 rfl dJ7_copyOfRange_39247_6 ?_
  refine lv_icmp_eq (tgt := 17) hx hb dJ7_copyOfRange_39247_7 (by decide) (fun _ => ?_) (fun cx => absurd rfl cx)
  refine lv_aload_n hx hb dJ7_copyOfRange_39247_17 rfl (lv_at hl 0 rfl) ?_
  refine va_clone hx hb (hml.trans hl.1.symm) hown (hts (.methodLink RJ7 310 ⟨"[B", "clone", "()Ljava/lang/Object;"⟩) (by decide +kernel)) (hts (.sameMethod "[B" "java/lang/Object" "clone" "()Ljava/lang/Object;") (by decide +kernel)) (hts (.native ⟨"java/lang/Object", "clone", "()Ljava/lang/Object;"⟩) (by decide +kernel)) (hts (.instanceMethod ⟨"java/lang/Object", "clone", "()Ljava/lang/Object;"⟩) (by decide +kernel)) (hts (.selects "[B" ⟨"[B", "clone", "()Ljava/lang/Object;"⟩ ⟨"java/lang/Object", "clone", "()Ljava/lang/Object;"⟩) (by decide +kernel)) hGL.kn (hw.kb hB) hw.2.1 hw.2.2.1 hw.2.2.2 hA _ 0 (cA := E.g.2.2 21) (x := (n, .inl a)) (ty := .byte) (xPlus_at hq2) rfl hnm2 (fun i v9 hv9 => va_fit (fun i _ => hf i) i v9 hv9) (Nat.le_of_ble_eq_true rfl) (Nat.le_of_ble_eq_true rfl) (Nat.le_of_ble_eq_true rfl) (show 0 + n ≤ 70 by omega) dJ7_copyOfRange_39247_18 (fun r H hK1 hP1 hD1 hS1 => ?_)
  have hw : xw (xPlus E (X ++ [(r, xBytes (E.g.2.2 21) n a)])) A s.heap s σ H [] := ⟨hw.1, by rw [xPlus_W2]; exact hP1, by rw [xPlus_W2]; exact hD1, hS1⟩
  refine va_castA hx hb hown (hts (.classLink RJ7 311 "[B") (by decide +kernel)) hw.2.1 _ (cA := E.g.2.2 21) (x := (n, .inl a)) (xPlus_at (k := X.length) (by rw [List.getElem?_append_right (Nat.le_refl _), Nat.sub_self]; rfl)) hnm2 dJ7_copyOfRange_39247_21 ?_
  exact x_Jaret hx hb hr (Or.inr ⟨_, rfl⟩) hlk hw ⟨a, rfl, fun _ _ => rfl⟩ (Nat.le_of_ble_eq_true rfl) (show 0 + n ≤ 70 by omega) dJ7_copyOfRange_39247_24

theorem mJ7_copyRange {l : Launch} {E : xE} {X : va_W} (q2 : Nat) {v m : Nat} {a : Nat → Int32} (hq2 : X[q2]? = some (v, xBytes (E.g.2.2 21) m a)) (n : Nat) (h1 : n ≤ m) (h2 : m ≤ 70) (hf : sb_Fit a) (σ : xSt) : xJr l yJ7_copyOfRange_39247 wsJ7_copyOfRange_39247 rmJ7_copyOfRange_39247 E X [.ref v, .int 0, .int (nI n)] σ (fun X1 r => ∃ b : Nat → Int32, X1 = X ++ [(r, xBytes (E.g.2.2 21) n b)] ∧ ∀ j, j < n → b j = a j) 1 70 := by
  by_cases h3 : n = m
  · subst h3
    exact mJ7_copyRange0 q2 hq2 h2 hf σ
  · exact mJ7_copyRange1 q2 hq2 n h1 h2 h3 hf σ

abbrev rmJ0_init_db425 : Room := { frames := 3, cells := 1, slots := 70, locals := 160 }
set_option maxRecDepth 100000 in
set_option maxHeartbeats 4000000 in
theorem mJ0_init2 {l : Launch} {E : xE} {h w v n m : Nat} {ml : Int32} {a : Nat → Int32} (hn : n ≤ m) (hm : m ≤ 70) (hf : sb_Fit a) (σ : xSt) : xJv l yJ0_init_db425 wsJ0_init_db425 rmJ0_init_db425 E [(w, sbO v ml n), (v, xBytes (E.g.2.2 21) m a), (h, soN)] [.ref h, .ref w, .null] σ (fun X1 => ∃ (r : Nat) (b : Nat → Int32), X1 = [(w, sbO v ml n), (v, xBytes (E.g.2.2 21) m a), (h, soO r), (r, xBytes (E.g.2.2 21) n b)] ∧ ∀ j, j < n → b j = a j) 1 70 := by
  intro sz
  refine xJ_of (cc := cJ0_init_db425) (maxL := 5) (ret := none) (QF := fun B => xQv2 E B (fun X1 => ∃ (r : Nat) (b : Nat → Int32), X1 = [(w, sbO v ml n), (v, xBytes (E.g.2.2 21) m a), (h, soO r), (r, xBytes (E.g.2.2 21) n b)] ∧ ∀ j, j < n → b j = a j) σ) sz (by decide) rfl (Nat.le_of_ble_eq_true rfl) ?_
  intro p e s m9 args below meth c9 A ls ⟨hx, hb, hr, hml, hown, hts, hlk⟩ hnm hA hGL hw hl
  have hown : s.vm.findClass RJ0 = some m9.cls := hown
  have hl : lv_has ls 5 [(0, .ref h), (1, .ref w), (2, .null)] := hl
  have hB : ArrOfT s (E.g.2.2 21) .byte ∧ va_RA s (E.g.2.2 21) .byte := hGL.kb
  have hiJ0 : ∀ w ∈ wsJ00, w ∈ wsJ0_init_db425 := by decide +kernel
  refine lv_aload_n hx hb dJ0_init_db425_0 rfl (lv_at hl 0 rfl) ?_
  refine W.objInit hx hb hown (hts (.methodLink RJ0 1 objectInit) (by decide +kernel)) (hts (.instanceMethod objectInit) (by decide +kernel)) (hts (.code objectInit ⟨#[0xb1]⟩ 1 none) (by decide +kernel)) rfl (by rw [hml]; exact hl.1) rfl dJ0_init_db425_1 (Nat.le_of_ble_eq_true rfl) (Nat.le_of_ble_eq_true rfl) ?_
  change W _ _ _ _ _ _ _ _ _ _ _ _ _ _ _ (F0 m9 4 ls [])
  refine lv_aload_n hx hb dJ0_init_db425_4 rfl (lv_at hl 1 rfl) ?_
  refine x_callJr (va_runU (As := []) (rest := []) ⟨hx, hb, hml, hown, hts⟩ (mJ5_getValue (E := E) (X := [(w, sbO v ml n), (v, xBytes (E.g.2.2 21) m a), (h, soN)]) 0 rfl σ s.heap.size) (va_cwU 0 hts gJ0_init_db425_J5_getValue_6d5f1_u552J4 rfl rfl rfl rfl (by decide +kernel) ⟨(Nat.le_of_ble_eq_true rfl), (Nat.le_of_ble_eq_true rfl)⟩) (x_preLX _ hw hA hGL (q := 0) rfl rfl) rfl rfl hl.1 rfl (lv_room (Nat.le_of_ble_eq_true rfl)) dJ0_init_db425_5 ⟨(Nat.le_of_ble_eq_true rfl), (Nat.le_of_ble_eq_true rfl)⟩) hw hA (fun X1 r1 H locs hX hw => ?_)
  obtain ⟨rfl, rfl⟩ := hX
  refine lv_astore_n (lv' := [(3, .ref r1), (0, .ref h), (1, .ref w), (2, .null)]) hx hb dJ0_init_db425_8 rfl hl (by decide) rfl (fun ls hl => ?_)
  refine lv_aload_n hx hb dJ0_init_db425_9 rfl (lv_at hl 2 rfl) ?_
  refine x_callLi (va_runU (As := []) (rest := []) ⟨hx, hb, hml, hown, hts⟩ (mJ4_length (E := E) (X := ((w, sbO r1 ml n) :: (r1, xBytes (E.g.2.2 21) m a) :: (h, soN) :: [])) 0 rfl σ H.size) (va_cwO 0 hts gJ0_init_db425_J4_length_8abf5_u549J4 rfl rfl rfl (b0 := cJ5_length_8abf5) (m0 := 1) (r0 := some .int) (by decide +kernel) (by decide +kernel) ⟨(Nat.le_of_ble_eq_true rfl), (Nat.le_of_ble_eq_true rfl)⟩) (x_preLX _ hw hA hGL (q := 0) rfl rfl) rfl rfl hl.1 rfl (lv_room (Nat.le_of_ble_eq_true rfl)) dJ0_init_db425_10 ⟨(Nat.le_of_ble_eq_true rfl), (Nat.le_of_ble_eq_true rfl)⟩) hw hA (fun H locs hw => ?_)
  refine lv_istore (lv' := [(4, .int (nI n)), (3, .ref r1), (0, .ref h), (1, .ref w), (2, .null)]) hx hb dJ0_init_db425_13 hl (by decide) rfl (fun ls hl => ?_)
  refine lv_aload_n hx hb dJ0_init_db425_15 rfl (lv_at hl 3 rfl) ?_
  refine x_callLi (va_runU (As := []) (rest := []) ⟨hx, hb, hml, hown, hts⟩ (mJ5_isLatin1 (E := E) (X := ((w, sbO r1 ml n) :: (r1, xBytes (E.g.2.2 21) m a) :: (h, soN) :: [])) 0 rfl σ H.size) (va_cwU 0 hts gJ0_init_db425_J5_isLatin1_aae02_u1047J4 rfl rfl rfl rfl (by decide +kernel) ⟨(Nat.le_of_ble_eq_true rfl), (Nat.le_of_ble_eq_true rfl)⟩) (x_preLX _ hw hA hGL (q := 0) rfl rfl) rfl rfl hl.1 rfl (lv_room (Nat.le_of_ble_eq_true rfl)) dJ0_init_db425_16 ⟨(Nat.le_of_ble_eq_true rfl), (Nat.le_of_ble_eq_true rfl)⟩) hw hA (fun H locs hw => ?_)
  refine lv_if_eq (tgt := 41) hx hb dJ0_init_db425_19 (by decide) (fun cx => absurd cx (by decide)) (fun _ => ?_)
  refine lv_aload_n hx hb dJ0_init_db425_22 rfl (lv_at hl 2 rfl) ?_
  refine lv_iconst (v := 0) hx hb dJ0_init_db425_23 (by decide) ?_
  refine x_putFX hx hb hw 2 rfl (own := RJ0) (ref := "java/lang/String") (C := RJ0) (T := TJ0) (N := 4) hts hiJ0 tyJ0 tyJ0_ok nmJ0 hown rfl 1 (by decide) (hts (.fieldLink RJ0 15 "java/lang/String" "coder" "B") (by decide +kernel)) (fun _ h9 => h9) rfl hnm rfl (tyJ0_ok 1 (by decide)) rfl rfl (Nat.le_of_ble_eq_true rfl) dJ0_init_db425_24 (fun H locs hw => ?_)
  replace hw : xw (xPlus E ((w, sbO r1 ml n) :: (r1, xBytes (E.g.2.2 21) m a) :: (h, .inr (14, [.null, .int 0, .int 0, .int 0])) :: [])) A s.heap s σ H locs := hw
  refine lv_aload_n hx hb dJ0_init_db425_27 rfl (lv_at hl 2 rfl) ?_
  refine lv_aload_n hx hb dJ0_init_db425_28 rfl (lv_at hl 1 rfl) ?_
  refine lv_iconst (v := 0) hx hb dJ0_init_db425_29 (by decide) ?_
  refine lv_iload hx hb dJ0_init_db425_30 (lv_at hl 0 rfl) ?_
  refine x_callJr (va_runS (As := [.ref r1, .int 0, .int (nI n)]) (rest := [.ref h]) ⟨hx, hb, hml, hown, hts⟩ (mJ7_copyRange (E := E) (X := ((w, sbO r1 ml n) :: (r1, xBytes (E.g.2.2 21) m a) :: (h, .inr (14, [.null, .int 0, .int 0, .int 0])) :: [])) 1 rfl n hn hm hf σ H.size) (va_cwS 3 hts gJ0_init_db425_J7_copyOfRange_39247 rfl rfl rfl (by decide +kernel) ⟨(Nat.le_of_ble_eq_true rfl), (Nat.le_of_ble_eq_true rfl)⟩) (x_preLS _ hw hA hGL) rfl rfl hl.1 rfl (lv_room (Nat.le_of_ble_eq_true rfl)) dJ0_init_db425_32 ⟨(Nat.le_of_ble_eq_true rfl), (Nat.le_of_ble_eq_true rfl)⟩) hw hA (fun X1 r H locs hX hw => ?_)
  obtain ⟨b, rfl, hb9⟩ := hX
  replace hw : xw (xPlus E ((w, sbO r1 ml n) :: (r1, xBytes (E.g.2.2 21) m a) :: (h, soN) :: (r, xBytes (E.g.2.2 21) n b) :: [])) A s.heap s σ H locs := hw
  refine x_putFX hx hb hw 2 rfl (own := RJ0) (ref := "java/lang/String") (C := RJ0) (T := TJ0) (N := 4) hts hiJ0 tyJ0 tyJ0_ok nmJ0 hown rfl 0 (by decide) (hts (.fieldLink RJ0 9 "java/lang/String" "value" "[B") (by decide +kernel)) (fun _ h9 => h9) rfl hnm rfl (tyJ0_ok 0 (by decide)) rfl rfl (Nat.le_of_ble_eq_true rfl) dJ0_init_db425_35 (fun H locs hw => ?_)
  replace hw : xw (xPlus E ((w, sbO r1 ml n) :: (r1, xBytes (E.g.2.2 21) m a) :: (h, .inr (14, [.ref r, .int 0, .int 0, .int 0])) :: (r, xBytes (E.g.2.2 21) n b) :: [])) A s.heap s σ H locs := hw
  refine lv_goto (tgt := 97) hx hb dJ0_init_db425_38 (by decide) ?_
  exact x_Jvret hx hb hr hlk hw ⟨r, b, rfl, hb9⟩ (Nat.le_of_ble_eq_true rfl) (Nat.le_of_ble_eq_true rfl) dJ0_init_db425_97

abbrev rmJ0_init_81219 : Room := { frames := 4, cells := 1, slots := 70, locals := 200 }
set_option maxRecDepth 100000 in
set_option maxHeartbeats 4000000 in
theorem mJ0_init1 {l : Launch} {E : xE} {h w v n m : Nat} {ml : Int32} {a : Nat → Int32} (hn : n ≤ m) (hm : m ≤ 70) (hf : sb_Fit a) (σ : xSt) : xJv l yJ0_init_81219 wsJ0_init_81219 rmJ0_init_81219 E [(w, sbO v ml n), (v, xBytes (E.g.2.2 21) m a), (h, soN)] [.ref h, .ref w] σ (fun X1 => ∃ (r : Nat) (b : Nat → Int32), X1 = [(w, sbO v ml n), (v, xBytes (E.g.2.2 21) m a), (h, soO r), (r, xBytes (E.g.2.2 21) n b)] ∧ ∀ j, j < n → b j = a j) 1 70 := by
  intro sz
  refine xJ_of (cc := cJ0_init_81219) (maxL := 2) (ret := none) (QF := fun B => xQv2 E B (fun X1 => ∃ (r : Nat) (b : Nat → Int32), X1 = [(w, sbO v ml n), (v, xBytes (E.g.2.2 21) m a), (h, soO r), (r, xBytes (E.g.2.2 21) n b)] ∧ ∀ j, j < n → b j = a j) σ) sz (by decide) rfl (Nat.le_of_ble_eq_true rfl) ?_
  intro p e s m9 args below meth c9 A ls ⟨hx, hb, hr, hml, hown, hts, hlk⟩ hnm hA hGL hw hl
  have hown : s.vm.findClass RJ0 = some m9.cls := hown
  have hl : lv_has ls 2 [(0, .ref h), (1, .ref w)] := hl
  have hB : ArrOfT s (E.g.2.2 21) .byte ∧ va_RA s (E.g.2.2 21) .byte := hGL.kb
  refine lv_aload_n hx hb dJ0_init_81219_0 rfl (lv_at hl 0 rfl) ?_
  refine lv_aload_n hx hb dJ0_init_81219_1 rfl (lv_at hl 1 rfl) ?_
  refine lv_null hx hb dJ0_init_81219_2 ?_
  refine x_callJv (va_runI (As := [.ref w, .null]) (rest := []) ⟨hx, hb, hml, hown, hts⟩ (mJ0_init2 (E := E) (h := h) (w := w) (v := v) (ml := ml) hn hm hf σ s.heap.size) (cwI 2 hts gJ0_init_81219_J0_init_db425 rfl rfl rfl (hts (.initialized RJ0) (by decide +kernel)) (hts (.methodLink RJ0 489 yJ0_init_db425) (by decide +kernel)) (hts (.instanceMethod yJ0_init_db425) (by decide +kernel)) rfl (by decide +kernel) ⟨(Nat.le_of_ble_eq_true rfl), (Nat.le_of_ble_eq_true rfl)⟩) (x_preLS _ hw hA hGL) rfl rfl hl.1 rfl (lv_room (Nat.le_of_ble_eq_true rfl)) dJ0_init_81219_3 ⟨(Nat.le_of_ble_eq_true rfl), (Nat.le_of_ble_eq_true rfl)⟩) hw hA (fun X1 H locs hX hw => ?_)
  exact x_Jvret hx hb hr hlk hw hX (Nat.le_of_ble_eq_true rfl) (Nat.le_of_ble_eq_true rfl) dJ0_init_81219_6

abbrev rmJ4_toString_0e30d : Room := { frames := 5, cells := 2, slots := 74, locals := 240 }
set_option maxRecDepth 100000 in
set_option maxHeartbeats 4000000 in
theorem mJ4_toString {l : Launch} {E : xE} {w v n m : Nat} {ml : Int32} {a : Nat → Int32} (hn : n ≤ m) (hm : m ≤ 70) (hf : sb_Fit a) (σ : xSt) : xJr l yJ4_toString_0e30d wsJ4_toString_0e30d rmJ4_toString_0e30d E [(w, sbO v ml n), (v, xBytes (E.g.2.2 21) m a)] [.ref w] σ (fun X1 r => ∃ (r1 : Nat) (b : Nat → Int32), X1 = [(w, sbO v ml n), (v, xBytes (E.g.2.2 21) m a), (r, soO r1), (r1, xBytes (E.g.2.2 21) n b)] ∧ ∀ j, j < n → b j = a j) 2 74 := by
  intro sz
  refine xJ_of (cc := cJ4_toString_0e30d) (maxL := 1) (ret := (some (.object "java/lang/String"))) (QF := fun B => xQr2 E B (fun X1 r => ∃ (r1 : Nat) (b : Nat → Int32), X1 = [(w, sbO v ml n), (v, xBytes (E.g.2.2 21) m a), (r, soO r1), (r1, xBytes (E.g.2.2 21) n b)] ∧ ∀ j, j < n → b j = a j) σ) sz (by decide) rfl (Nat.le_of_ble_eq_true rfl) ?_
  intro p e s m9 args below meth c9 A ls ⟨hx, hb, hr, hml, hown, hts, hlk⟩ hnm hA hGL hw hl
  have hown : s.vm.findClass RJ4 = some m9.cls := hown
  have hl : lv_has ls 1 [(0, .ref w)] := hl
  have hB : ArrOfT s (E.g.2.2 21) .byte ∧ va_RA s (E.g.2.2 21) .byte := hGL.kb
  have hiJ0 : ∀ w ∈ wsJ00, w ∈ wsJ4_toString_0e30d := by decide +kernel
  have hiJ0 : ∀ w ∈ wsJ00, w ∈ wsJ4_toString_0e30d := by decide +kernel
  refine va_new (ci := 14) (fs := [.null, .int 0, .int 0, .int 0]) (C := RJ0) (T := TJ0) (N := 4) hx hb hts hiJ0 tyJ0 tyJ0_ok hown (hts (.classLink RJ4 18 RJ0) (by decide +kernel)) (hts (.instantiable RJ0 4) (by decide +kernel)) (hts (.initialized RJ0) (by decide +kernel)) hw.1 hw.2.1 hw.2.2.1 hw.2.2.2 hA rfl (fun j hj => by rcases (show j = 0 ∨ j = 1 ∨ j = 2 ∨ j = 3 by omega) with rfl | rfl | rfl | rfl <;> rfl) (Nat.le_of_ble_eq_true rfl) (Nat.le_of_ble_eq_true rfl) dJ4_toString_0e30d_0 (fun r H hP hD hS => ?_)
  have hw : xw (xPlus E ((w, sbO v ml n) :: (v, xBytes (E.g.2.2 21) m a) :: (r, soN) :: [])) A s.heap s σ H [] := ⟨hw.1, by rw [← xPlus_W2] at hP; exact hP, by rw [← xPlus_W2] at hD; exact hD, hS⟩
  refine lv_dup hx hb dJ4_toString_0e30d_3 rfl ?_
  refine lv_aload_n hx hb dJ4_toString_0e30d_4 rfl (lv_at hl 0 rfl) ?_
  refine x_callJv (va_runI (As := [.ref w]) (rest := [.ref r]) ⟨hx, hb, hml, hown, hts⟩ (mJ0_init1 (E := E) (h := r) (w := w) (v := v) (ml := ml) hn hm hf σ H.size) (cwI 1 hts gJ4_toString_0e30d_J0_init_81219 rfl rfl rfl (hts (.initialized RJ0) (by decide +kernel)) (hts (.methodLink RJ4 137 yJ0_init_81219) (by decide +kernel)) (hts (.instanceMethod yJ0_init_81219) (by decide +kernel)) rfl (by decide +kernel) ⟨(Nat.le_of_ble_eq_true rfl), (Nat.le_of_ble_eq_true rfl)⟩) (x_preLS _ hw hA hGL) rfl rfl hl.1 rfl (lv_room (Nat.le_of_ble_eq_true rfl)) dJ4_toString_0e30d_5 ⟨(Nat.le_of_ble_eq_true rfl), (Nat.le_of_ble_eq_true rfl)⟩) hw hA (fun X1 H locs hX hw => ?_)
  exact x_Jaret hx hb hr (Or.inl ⟨_, rfl⟩) hlk hw hX (Nat.le_of_ble_eq_true rfl) (Nat.le_of_ble_eq_true rfl) dJ4_toString_0e30d_8

abbrev rmJ3_checkIndex_8e157 : Room := { frames := 0, cells := 0, slots := 0, locals := 0 }
set_option maxRecDepth 100000 in
set_option maxHeartbeats 4000000 in
theorem mJ3_checkIndexN {l : Launch} {E : xE} (i n : Nat) (hi : i < n) (hn : n ≤ 1000) (σ : xSt) : xLi l yJ3_checkIndex_8e157 wsJ3_checkIndex_8e157 rmJ3_checkIndex_8e157 E [.int (nI i), .int (nI n), .null] σ (nI i) σ 0 0 := by
  refine xLi_of (cc := cJ3_checkIndex_8e157) (maxL := 3) (ret := (some .int)) (by decide) rfl (Nat.le_of_ble_eq_true rfl) ?_
  intro p e s m9 args below meth c9 A ls ⟨hx, hb, hr, hml, hown, hts, hlk⟩ hA hGL hw hl
  have hown : s.vm.findClass RJ3 = some m9.cls := hown
  have hl : lv_has ls 3 [(0, .int (nI i)), (1, .int (nI n)), (2, .null)] := hl
  have hB : ArrOfT s (E.g.2.2 21) .byte ∧ va_RA s (E.g.2.2 21) .byte := hGL.kb
  refine lv_iload_n hx hb dJ3_checkIndex_8e157_0 rfl (lv_at hl 0 rfl) ?_
  refine lv_if_lt (tgt := 9) hx hb dJ3_checkIndex_8e157_1 (by decide) (fun cx => absurd cx (nI_pos (by omega))) (fun _ => ?_)
  refine lv_iload_n hx hb dJ3_checkIndex_8e157_4 rfl (lv_at hl 0 rfl) ?_
  refine lv_iload_n hx hb dJ3_checkIndex_8e157_5 rfl (lv_at hl 1 rfl) ?_
  refine lv_icmp_lt (tgt := 16) hx hb dJ3_checkIndex_8e157_6 (by decide) (fun _ => ?_) (fun cx => absurd (nI_lt hi (by omega)) cx)
  refine lv_iload_n hx hb dJ3_checkIndex_8e157_16 rfl (lv_at hl 0 rfl) ?_
  exact x_Jiret hx hb hr rfl hlk hw (Nat.le_of_ble_eq_true rfl) (Nat.le_of_ble_eq_true rfl) dJ3_checkIndex_8e157_17

set_option maxRecDepth 100000 in
set_option maxHeartbeats 4000000 in
theorem mJ3_checkIndexR {l : Launch} {E : xE} (i n : Nat) (hi : i < n) (hn : n ≤ 1000) (y0 : Nat) (σ : xSt) : xLi l yJ3_checkIndex_8e157 wsJ3_checkIndex_8e157 rmJ3_checkIndex_8e157 E [.int (nI i), .int (nI n), .ref y0] σ (nI i) σ 0 0 := by
  refine xLi_of (cc := cJ3_checkIndex_8e157) (maxL := 3) (ret := (some .int)) (by decide) rfl (Nat.le_of_ble_eq_true rfl) ?_
  intro p e s m9 args below meth c9 A ls ⟨hx, hb, hr, hml, hown, hts, hlk⟩ hA hGL hw hl
  have hown : s.vm.findClass RJ3 = some m9.cls := hown
  have hl : lv_has ls 3 [(0, .int (nI i)), (1, .int (nI n)), (2, .ref y0)] := hl
  have hB : ArrOfT s (E.g.2.2 21) .byte ∧ va_RA s (E.g.2.2 21) .byte := hGL.kb
  refine lv_iload_n hx hb dJ3_checkIndex_8e157_0 rfl (lv_at hl 0 rfl) ?_
  refine lv_if_lt (tgt := 9) hx hb dJ3_checkIndex_8e157_1 (by decide) (fun cx => absurd cx (nI_pos (by omega))) (fun _ => ?_)
  refine lv_iload_n hx hb dJ3_checkIndex_8e157_4 rfl (lv_at hl 0 rfl) ?_
  refine lv_iload_n hx hb dJ3_checkIndex_8e157_5 rfl (lv_at hl 1 rfl) ?_
  refine lv_icmp_lt (tgt := 16) hx hb dJ3_checkIndex_8e157_6 (by decide) (fun _ => ?_) (fun cx => absurd (nI_lt hi (by omega)) cx)
  refine lv_iload_n hx hb dJ3_checkIndex_8e157_16 rfl (lv_at hl 0 rfl) ?_
  exact x_Jiret hx hb hr rfl hlk hw (Nat.le_of_ble_eq_true rfl) (Nat.le_of_ble_eq_true rfl) dJ3_checkIndex_8e157_17

abbrev rmJ0_checkIndex_df160 : Room := { frames := 1, cells := 0, slots := 0, locals := 40 }
set_option maxRecDepth 100000 in
set_option maxHeartbeats 4000000 in
theorem mJ0_checkIndex {l : Launch} {E : xE} {X : va_W} (i n : Nat) (hi : i < n) (hn : n ≤ 1000) (σ : xSt) : xJv l yJ0_checkIndex_df160 wsJ0_checkIndex_df160 rmJ0_checkIndex_df160 E X [.int (nI i), .int (nI n)] σ (fun X1 => X1 = X) 0 0 := by
  intro sz
  refine xJ_of (cc := cJ0_checkIndex_df160) (maxL := 2) (ret := none) (QF := fun B => xQv2 E B (fun X1 => X1 = X) σ) sz (by decide) rfl (Nat.le_of_ble_eq_true rfl) ?_
  intro p e s m9 args below meth c9 A ls ⟨hx, hb, hr, hml, hown, hts, hlk⟩ hnm hA hGL hw hl
  have hown : s.vm.findClass RJ0 = some m9.cls := hown
  have hl : lv_has ls 2 [(0, .int (nI i)), (1, .int (nI n))] := hl
  have hB : ArrOfT s (E.g.2.2 21) .byte ∧ va_RA s (E.g.2.2 21) .byte := hGL.kb
  refine lv_iload_n hx hb dJ0_checkIndex_df160_0 rfl (lv_at hl 0 rfl) ?_
  refine lv_iload_n hx hb dJ0_checkIndex_df160_1 rfl (lv_at hl 1 rfl) ?_
  rcases hGL.2.2.2.2.2.2.2.2.2.1 with hz | ⟨y0, hz⟩
  · refine va_gets hx hb hz hw.2.2.2 hown (hts (.fieldLink RJ0 1053 "jdk/internal/util/Preconditions" "SIOOBE_FORMATTER" "Ljava/util/function/BiFunction;") (by decide +kernel)) (fun _ h9 => h9) dJ0_checkIndex_df160_2 ?_
    refine x_callLi (va_runS (As := [.int (nI i), .int (nI n), .null]) (rest := []) ⟨hx, hb, hml, hown, hts⟩ (mJ3_checkIndexN (E := xPlus E X) i n hi hn σ s.heap.size) (va_cwS 3 hts gJ0_checkIndex_df160_J3_checkIndex_8e157 rfl rfl rfl (by decide +kernel) ⟨(Nat.le_of_ble_eq_true rfl), (Nat.le_of_ble_eq_true rfl)⟩) (x_preLS _ hw hA hGL) rfl rfl hl.1 rfl (lv_room (Nat.le_of_ble_eq_true rfl)) dJ0_checkIndex_df160_5 ⟨(Nat.le_of_ble_eq_true rfl), (Nat.le_of_ble_eq_true rfl)⟩) hw hA (fun H locs hw => ?_)
    refine lv_pop hx hb dJ0_checkIndex_df160_8 rfl ?_
    exact x_Jvret hx hb hr hlk hw rfl (Nat.le_of_ble_eq_true rfl) (Nat.le_of_ble_eq_true rfl) dJ0_checkIndex_df160_9
  · refine va_gets hx hb hz hw.2.2.2 hown (hts (.fieldLink RJ0 1053 "jdk/internal/util/Preconditions" "SIOOBE_FORMATTER" "Ljava/util/function/BiFunction;") (by decide +kernel)) (fun _ h9 => h9) dJ0_checkIndex_df160_2 ?_
    refine x_callLi (va_runS (As := [.int (nI i), .int (nI n), .ref y0]) (rest := []) ⟨hx, hb, hml, hown, hts⟩ (mJ3_checkIndexR (E := xPlus E X) i n hi hn y0 σ s.heap.size) (va_cwS 3 hts gJ0_checkIndex_df160_J3_checkIndex_8e157 rfl rfl rfl (by decide +kernel) ⟨(Nat.le_of_ble_eq_true rfl), (Nat.le_of_ble_eq_true rfl)⟩) (x_preLS _ hw hA hGL) rfl rfl hl.1 rfl (lv_room (Nat.le_of_ble_eq_true rfl)) dJ0_checkIndex_df160_5 ⟨(Nat.le_of_ble_eq_true rfl), (Nat.le_of_ble_eq_true rfl)⟩) hw hA (fun H locs hw => ?_)
    refine lv_pop hx hb dJ0_checkIndex_df160_8 rfl ?_
    exact x_Jvret hx hb hr hlk hw rfl (Nat.le_of_ble_eq_true rfl) (Nat.le_of_ble_eq_true rfl) dJ0_checkIndex_df160_9

abbrev rmJ1_charAt_3b067 : Room := { frames := 2, cells := 0, slots := 0, locals := 80 }
set_option maxRecDepth 100000 in
set_option maxHeartbeats 4000000 in
theorem mJ1_charAt {l : Launch} {E : xE} {X : va_W} (q2 : Nat) {v n : Nat} {a : Nat → Int32} (hq2 : X[q2]? = some (v, xBytes (E.g.2.2 21) n a)) (i c0 : Nat) (hi : i < n) (hn : n ≤ 1000) (hL : c0 < 256 ∧ a i = sb_b c0) (σ : xSt) : xLi l yJ1_charAt_3b067 wsJ1_charAt_3b067 rmJ1_charAt_3b067 (xPlus E X) [.ref v, .int (nI i)] σ (nI c0) σ 0 0 := by
  refine xLi_of (cc := cJ1_charAt_3b067) (maxL := 2) (ret := (some .char)) (by decide) rfl (Nat.le_of_ble_eq_true rfl) ?_
  intro p e s m9 args below meth c9 A ls ⟨hx, hb, hr, hml, hown, hts, hlk⟩ hA hGL hw hl
  have hown : s.vm.findClass RJ1 = some m9.cls := hown
  have hl : lv_has ls 2 [(0, .ref v), (1, .int (nI i))] := hl
  have hB : ArrOfT s (E.g.2.2 21) .byte ∧ va_RA s (E.g.2.2 21) .byte := hGL.kb
  refine lv_iload_n hx hb dJ1_charAt_3b067_0 rfl (lv_at hl 1 rfl) ?_
  refine lv_aload_n hx hb dJ1_charAt_3b067_1 rfl (lv_at hl 0 rfl) ?_
  refine x_alenB (v := nI n) hx hb hB hw q2 hq2 rfl dJ1_charAt_3b067_2 ?_
  refine x_callJv (va_runS (As := [.int (nI i), .int (nI n)]) (rest := []) ⟨hx, hb, hml, hown, hts⟩ (mJ0_checkIndex (E := E) (X := X) i n hi hn σ s.heap.size) (va_cwS 2 hts gJ1_charAt_3b067_J0_checkIndex_df160 rfl rfl rfl (by decide +kernel) ⟨(Nat.le_of_ble_eq_true rfl), (Nat.le_of_ble_eq_true rfl)⟩) (x_preLS _ hw hA hGL) rfl rfl hl.1 rfl (lv_room (Nat.le_of_ble_eq_true rfl)) dJ1_charAt_3b067_3 ⟨(Nat.le_of_ble_eq_true rfl), (Nat.le_of_ble_eq_true rfl)⟩) hw hA (fun X1 H locs hX hw => ?_)
  rw [hX] at hw
  refine lv_aload_n hx hb dJ1_charAt_3b067_6 rfl (lv_at hl 0 rfl) ?_
  refine lv_iload_n hx hb dJ1_charAt_3b067_7 rfl (lv_at hl 1 rfl) ?_
  refine x_bld hx hb hB hw q2 hq2 (nI_in hi (by omega)) dJ1_charAt_3b067_8 ?_
  rw [nI_clamp (show i < 2 ^ 31 by omega), hL.2]
  refine lv_sipush (v := 255) hx hb dJ1_charAt_3b067_9 (by decide) ?_
  refine lv_iand hx hb dJ1_charAt_3b067_12 ?_
  rw [(sb_byte c0 hL.1).1]
  refine lv_i2c (v := nI c0) hx hb dJ1_charAt_3b067_13 (sb_byte c0 hL.1).2.1 ?_
  exact x_Jiret hx hb hr (show narrow .char (.int (nI c0)) = .int (nI c0) from chNar hL.1) hlk hw (Nat.le_of_ble_eq_true rfl) (Nat.le_of_ble_eq_true rfl) dJ1_charAt_3b067_14

abbrev rmJ0_charAt_5068e : Room := { frames := 3, cells := 0, slots := 0, locals := 120 }
set_option maxRecDepth 100000 in
set_option maxHeartbeats 4000000 in
theorem mJ0_charAt {l : Launch} {E : xE} {X : va_W} (q q2 : Nat) {h v n : Nat} {a : Nat → Int32} (hq : X[q]? = some (h, soO v)) (hq2 : X[q2]? = some (v, xBytes (E.g.2.2 21) n a)) (i c0 : Nat) (hi : i < n) (hn : n ≤ 1000) (hL : c0 < 256 ∧ a i = sb_b c0) (σ : xSt) : xLi l yJ0_charAt_5068e wsJ0_charAt_5068e rmJ0_charAt_5068e (xPlus E X) [.ref h, .int (nI i)] σ (nI c0) σ 0 0 := by
  refine xLi_of (cc := cJ0_charAt_5068e) (maxL := 2) (ret := (some .char)) (by decide) rfl (Nat.le_of_ble_eq_true rfl) ?_
  intro p e s m9 args below meth c9 A ls ⟨hx, hb, hr, hml, hown, hts, hlk⟩ hA hGL hw hl
  have hown : s.vm.findClass RJ0 = some m9.cls := hown
  have hl : lv_has ls 2 [(0, .ref h), (1, .int (nI i))] := hl
  have hB : ArrOfT s (E.g.2.2 21) .byte ∧ va_RA s (E.g.2.2 21) .byte := hGL.kb
  have hiJ0 : ∀ w ∈ wsJ00, w ∈ wsJ0_charAt_5068e := by decide +kernel
  refine lv_aload_n hx hb dJ0_charAt_5068e_0 rfl (lv_at hl 0 rfl) ?_
  refine x_callLi (va_runV (As := []) (rest := []) ⟨hx, hb, hml, hown, hts⟩ (mJ0_isLatin1 (E := E) (X := X) q hq σ s.heap.size) (cwV 0 hts gJ0_charAt_5068e_J0_isLatin1_aae02 rfl rfl rfl (by decide +kernel) ⟨(Nat.le_of_ble_eq_true rfl), (Nat.le_of_ble_eq_true rfl)⟩) (x_preLX _ hw hA hGL (q := q) hq rfl) rfl rfl hl.1 rfl (lv_room (Nat.le_of_ble_eq_true rfl)) dJ0_charAt_5068e_1 ⟨(Nat.le_of_ble_eq_true rfl), (Nat.le_of_ble_eq_true rfl)⟩) hw hA (fun H locs hw => ?_)
  refine lv_if_eq (tgt := 16) hx hb dJ0_charAt_5068e_4 (by decide) (fun cx => absurd cx (by decide)) (fun _ => ?_)
  refine lv_aload_n hx hb dJ0_charAt_5068e_7 rfl (lv_at hl 0 rfl) ?_
  refine x_getX hx hb hw q hq (own := RJ0) (ref := "java/lang/String") (C := RJ0) (T := TJ0) (N := 4) hts hiJ0 hown rfl 0 (by decide) (hts (.fieldLink RJ0 9 "java/lang/String" "value" "[B") (by decide +kernel)) (fun _ h9 => h9) rfl dJ0_charAt_5068e_8 ?_
  refine lv_iload_n hx hb dJ0_charAt_5068e_11 rfl (lv_at hl 1 rfl) ?_
  refine x_callLi (va_runS (As := [.ref v, .int (nI i)]) (rest := []) ⟨hx, hb, hml, hown, hts⟩ (mJ1_charAt (E := E) (X := X) q2 hq2 i c0 hi hn hL σ H.size) (va_cwS 2 hts gJ0_charAt_5068e_J1_charAt_3b067 rfl rfl rfl (by decide +kernel) ⟨(Nat.le_of_ble_eq_true rfl), (Nat.le_of_ble_eq_true rfl)⟩) (x_preLS _ hw hA hGL) rfl rfl hl.1 rfl (lv_room (Nat.le_of_ble_eq_true rfl)) dJ0_charAt_5068e_12 ⟨(Nat.le_of_ble_eq_true rfl), (Nat.le_of_ble_eq_true rfl)⟩) hw hA (fun H locs hw => ?_)
  exact x_Jiret hx hb hr (show narrow .char (.int (nI c0)) = .int (nI c0) from chNar hL.1) hlk hw (Nat.le_of_ble_eq_true rfl) (Nat.le_of_ble_eq_true rfl) dJ0_charAt_5068e_15
