/-! ===== THE JDK'S TEXTS: StringBuilder.append ===== -/
def skT (i j : Nat) : Nat := (([[32], [44, 32]] : List (List Nat)).getD i []).getD j 0
theorem skB_b {i j : Nat} (hi : i < 2) (hj : j < skW i) : skT i j < 256 ∧ skB i j = sb_b (skT i j) := by
  rcases (show i = 0 ∨ i = 1 by omega) with rfl | rfl
  · obtain rfl : j = 0 := by have h : skW 0 = 1 := rfl; omega
    decide +kernel
  · rcases (show j = 0 ∨ j = 1 by have h : skW 1 = 2 := rfl; omega) with rfl | rfl <;> decide +kernel
theorem skW_le {i : Nat} (hi : i < 2) : skW i ≤ 2 := by rcases (show i = 0 ∨ i = 1 by omega) with rfl | rfl <;> decide
theorem skB_fit {i : Nat} (hi : i < 2) : sb_Fit (skB i) := by
  have h0 : fits .byte (.int 0) = true := by decide
  have h1 : fits .byte (.int 32) = true := by decide
  have h2 : fits .byte (.int 44) = true := by decide
  rcases (show i = 0 ∨ i = 1 by omega) with rfl | rfl
  · intro j
    match j with
    | 0 => exact h1
    | k + 1 => exact h0
  · intro j
    match j with
    | 0 => exact h2
    | 1 => exact h1
    | k + 2 => exact h0
abbrev xQi2 (E : xE) (A : Nat → Prop) (P : va_W → Int32 → Prop) (σ1 : xSt) : Array Value → State → Outcome → State → Prop := va_Qi (S := va_W) (fun r X => P X r) (fun X t => xat (xPlus E X) A σ1 t) A
def xJi (l : Launch) (y : MethodName) (ws : List Cond) (rm : Room) (E : xE) (X : va_W) (av : List Value) (σ : xSt) (P : va_W → Int32 → Prop) (mc ms : Nat) : Prop := ∀ sz : Nat, Met l y ws rm (xPreL (xPlus E X) av σ sz) (xQi2 E (va_A ((xPlus E X).W σ) sz) P σ) mc ms (va_A ((xPlus E X).W σ) sz)
section XJI
variable {p : Program} {l : Launch} {e : Env} {R : Room} {s : State} {m : MethodId} {args : Array Value} {below : List Frame} {meth : Method} {c : Code} {H : Heap} {locs : List Loc} {cells slots : Nat} {Q : State → Prop}
variable {cc : ByteArray} {pc : Nat} {ls : Array Slot} {rest : List Value} {E : xE} {A : Nat → Prop} {H0 : Heap} {σ : xSt} {X : va_W}
theorem x_callJi {av : Array Value} {P : va_W → Int32 → Prop} {σ1 : xSt} {st0 : List Value} {mc ms : Nat} (hr : va_Run p l e R s m args below meth c H locs cells slots mc ms (F0 m pc ls st0) rest (xQi2 E (va_A ((xPlus E X).W σ) H.size) P σ1 av) (va_A ((xPlus E X).W σ) H.size)) (hw : xw (xPlus E X) A H0 s σ H locs) (hA : ∀ q, H0.size ≤ q → A q)
    (kk : ∀ (X1 : va_W) (r : Int32) (H1 : Heap) (locs1 : List Loc), P X1 r → xw (xPlus E X1) A H0 s σ1 H1 locs1 → W p l e R s m args below meth c H1 locs1 (cells + mc) (slots + ms) Q (F0 m (pc + 3) ls (.int r :: rest))) : W p l e R s m args below meth c H locs cells slots Q (F0 m pc ls st0) := by
  refine va_calli hr hw.2.2.2 (fun q _ h => hw.free hA q h) (hw.free hA) (fun r u t H1 locs1 ht hvm hpost hB hz1 hk1 hS1 => ?_)
  obtain ⟨hP1, hK1, hD1⟩ := hB
  rw [ht] at hP1
  exact kk u r H1 locs1 hpost ⟨hw.1, hP1, ⟨hD1.1, fun k z hk => hw.free hA _ (hD1.2 k z hk)⟩, hS1⟩
theorem x_Jiret2 {P : va_W → Int32 → Prop} {ty : FieldType} {v : Int32} {mc ms : Nat} (hexec : p.tables.exec = Jvm.exec) (hb : c.code = cc) (hr : meth.sig.returnType = some ty) (hn : narrow ty (.int v) = .int v) (hlocks : meth.locks = false) (hw : xw (xPlus E X) A s.heap s σ H locs) (hp : P X v) (hc : cells ≤ mc) (hs : slots ≤ ms) (hdg : decode cc pc = .ok (.ireturn, 1)) : W p l e R s m args below meth c H locs cells slots (MQ below (xQi2 E A P σ) args s mc ms A) (F0 m pc ls [.int v]) :=
  W.widen hc hs (W.zret hexec hb hr hn (fun t ht hW => ⟨⟨v, X, rfl, hp, by rw [ht]; exact hw.2.1, va_K.moved hW.alike hw.1, hw.2.2.1⟩, hw.2.2.2.F ht⟩) hw.2.2.2.2.2 hdg hlocks)
end XJI

abbrev rmJ0_getBytes_840e7 : Room := { frames := 1, cells := 0, slots := 0, locals := 60 }
set_option maxRecDepth 100000 in
set_option maxHeartbeats 4000000 in
theorem mJ0_getBytes {l : Launch} {E : xE} {X : va_W} (q2 : Nat) {i v m n : Nat} {a : Nat → Int32} (hi : i < 2) (hq2 : X[q2]? = some (v, xBytes (E.g.2.2 21) m a)) (hm : m ≤ 100) (hn : n + skW i ≤ m) (σ : xSt) : xJv l yJ0_getBytes_840e7 wsJ0_getBytes_840e7 rmJ0_getBytes_840e7 E X [.ref (E.g.2.2 (12 + i)), .ref v, .int (nI n), .int 0] σ (fun X1 => X1 = X.set q2 (v, xBytes (E.g.2.2 21) m (va_cpy (skB i) a 0 n (skW i)))) 0 0 := by
  intro sz
  refine xJ_of (cc := cJ0_getBytes_840e7) (maxL := 4) (ret := none) (QF := fun B => xQv2 E B (fun X1 => X1 = X.set q2 (v, xBytes (E.g.2.2 21) m (va_cpy (skB i) a 0 n (skW i)))) σ) sz (by decide) rfl (Nat.le_of_ble_eq_true rfl) ?_
  intro p e s m9 args below meth c9 A ls ⟨hx, hb, hr, hml, hown, hts, hlk⟩ hnm hA hGL hw hl
  have hown : s.vm.findClass RJ0 = some m9.cls := hown
  have hl : lv_has ls 4 [(0, .ref (E.g.2.2 (12 + i))), (1, .ref v), (2, .int (nI n)), (3, .int 0)] := hl
  have hB : ArrOfT s (E.g.2.2 21) .byte ∧ va_RA s (E.g.2.2 21) .byte := hGL.kb
  have hw2 := skW_le hi
  refine lv_aload_n hx hb dJ0_getBytes_840e7_0 rfl (lv_at hl 0 rfl) ?_
  refine x_callLi (va_runV (As := []) (rest := []) ⟨hx, hb, hml, hown, hts⟩ (mJ0_coderK (E := xPlus E X) hi σ s.heap.size) (cwV 0 hts gJ0_getBytes_840e7_J0_coder_7d493 rfl rfl rfl (by decide +kernel) ⟨(Nat.le_of_ble_eq_true rfl), (Nat.le_of_ble_eq_true rfl)⟩) (x_preLK _ hw hA hGL hi) rfl rfl hl.1 rfl (lv_room (Nat.le_of_ble_eq_true rfl)) dJ0_getBytes_840e7_1 ⟨(Nat.le_of_ble_eq_true rfl), (Nat.le_of_ble_eq_true rfl)⟩) hw hA (fun H locs hw => ?_)
  refine lv_iload_n hx hb dJ0_getBytes_840e7_4 rfl (lv_at hl 3 rfl) ?_
  refine lv_icmp_ne (tgt := 28) hx hb dJ0_getBytes_840e7_5 (by decide) (fun cx => absurd (by decide) cx) (fun _ => ?_)
  refine lv_aload_n hx hb dJ0_getBytes_840e7_8 rfl (lv_at hl 0 rfl) ?_
  refine vk_getf hx hb (hGL.2.2.2.2.2.1.1 i hi).2.2.1 hw.2.2.2 hown (hts (.fieldLink RJ0 9 "java/lang/String" "value" "[B") (by decide +kernel)) (fun _ h9 => h9) dJ0_getBytes_840e7_9 ?_
  refine lv_iconst (v := 0) hx hb dJ0_getBytes_840e7_12 (by decide) ?_
  refine lv_aload_n hx hb dJ0_getBytes_840e7_13 rfl (lv_at hl 1 rfl) ?_
  refine lv_iload_n hx hb dJ0_getBytes_840e7_14 rfl (lv_at hl 2 rfl) ?_
  refine lv_iload_n hx hb dJ0_getBytes_840e7_15 rfl (lv_at hl 3 rfl) ?_
  refine lv_ishl hx hb dJ0_getBytes_840e7_16 ?_
  rw [sb_shl0]
  refine lv_aload_n hx hb dJ0_getBytes_840e7_17 rfl (lv_at hl 0 rfl) ?_
  refine vk_getf hx hb (hGL.2.2.2.2.2.1.1 i hi).2.2.1 hw.2.2.2 hown (hts (.fieldLink RJ0 9 "java/lang/String" "value" "[B") (by decide +kernel)) (fun _ h9 => h9) dJ0_getBytes_840e7_18 ?_
  refine va_tlen hx hb (hGL.2.2.2.2.2.1.1 i hi).2.2.2 hw.2.2.2 (v := nI (skW i)) rfl dJ0_getBytes_840e7_21 ?_
  refine x_copyK hx hb (hml.trans hl.1.symm) hB hw hown (hts (.methodLink RJ0 212 arraycopyName) (by decide +kernel)) (hts (.native arraycopyName) (by decide +kernel)) (hts (.static arraycopyName) (by decide +kernel)) (hts (.initialized "java/lang/System") (by decide +kernel)) (n0 := skW i) (f := skB i) (hGL.2.2.2.2.2.1.1 i hi).2.2.2 q2 hq2 (by decide) (nI_pos (by omega)) (nI_pos (by omega)) (by rw [nI_clamp (show skW i < 2 ^ 31 by omega), sb_cl0]; omega) (by rw [nI_clamp (show skW i < 2 ^ 31 by omega), nI_clamp (show n < 2 ^ 31 by omega)]; omega) (skB_fit hi) (Nat.le_of_ble_eq_true rfl) (Nat.le_of_ble_eq_true rfl) dJ0_getBytes_840e7_22 (fun H locs hw => ?_)
  rw [sb_cl0, nI_clamp (show skW i < 2 ^ 31 by omega), nI_clamp (show n < 2 ^ 31 by omega)] at hw
  refine lv_goto (tgt := 43) hx hb dJ0_getBytes_840e7_25 (by decide) ?_
  exact x_Jvret hx hb hr hlk hw rfl (Nat.le_of_ble_eq_true rfl) (Nat.le_of_ble_eq_true rfl) dJ0_getBytes_840e7_43

abbrev rmJ5_inflateIfNeededFor_a7421 : Room := { frames := 1, cells := 0, slots := 0, locals := 40 }
set_option maxRecDepth 100000 in
set_option maxHeartbeats 4000000 in
theorem mJ5_inflateIf {l : Launch} {E : xE} {X : va_W} (q : Nat) {i h v n : Nat} {ml : Int32} (hi : i < 2) (hq : X[q]? = some (h, sbO v ml n)) (σ : xSt) : xJv l yJ5_inflateIfNeededFor_a7421 wsJ5_inflateIfNeededFor_a7421 rmJ5_inflateIfNeededFor_a7421 E X [.ref h, .ref (E.g.2.2 (12 + i))] σ (fun X1 => X1 = X) 0 0 := by
  intro sz
  refine xJ_of (cc := cJ5_inflateIfNeededFor_a7421) (maxL := 2) (ret := none) (QF := fun B => xQv2 E B (fun X1 => X1 = X) σ) sz (by decide) rfl (Nat.le_of_ble_eq_true rfl) ?_
  intro p e s m9 args below meth c9 A ls ⟨hx, hb, hr, hml, hown, hts, hlk⟩ hnm hA hGL hw hl
  have hown : s.vm.findClass RJ5 = some m9.cls := hown
  have hl : lv_has ls 2 [(0, .ref h), (1, .ref (E.g.2.2 (12 + i)))] := hl
  have hB : ArrOfT s (E.g.2.2 21) .byte ∧ va_RA s (E.g.2.2 21) .byte := hGL.kb
  have hiJ4 : ∀ w ∈ wsJ40, w ∈ wsJ5_inflateIfNeededFor_a7421 := by decide +kernel
  refine va_gets hx hb hGL.2.2.2.2.2.2.1 hw.2.2.2 hown (hts (.fieldLink RJ5 18 "java/lang/String" "COMPACT_STRINGS" "Z") (by decide +kernel)) (fun _ h9 => h9) dJ5_inflateIfNeededFor_a7421_0 ?_
  refine lv_if_eq (tgt := 21) hx hb dJ5_inflateIfNeededFor_a7421_3 (by decide) (fun cx => absurd cx (by decide)) (fun _ => ?_)
  refine lv_aload_n hx hb dJ5_inflateIfNeededFor_a7421_6 rfl (lv_at hl 0 rfl) ?_
  refine x_getX hx hb hw q hq (own := RJ5) (ref := "java/lang/AbstractStringBuilder") (C := RJ4) (T := TJ4) (N := 4) hts hiJ4 hown rfl 1 (by decide) (hts (.fieldLink RJ5 22 "java/lang/AbstractStringBuilder" "coder" "B") (by decide +kernel)) (fun _ h9 => h9) rfl dJ5_inflateIfNeededFor_a7421_7 ?_
  refine lv_aload_n hx hb dJ5_inflateIfNeededFor_a7421_10 rfl (lv_at hl 1 rfl) ?_
  refine x_callLi (va_runV (As := []) (rest := [.int 0]) ⟨hx, hb, hml, hown, hts⟩ (mJ0_coderK (E := xPlus E X) hi σ s.heap.size) (cwV 0 hts gJ5_inflateIfNeededFor_a7421_J0_coder_7d493 rfl rfl rfl (by decide +kernel) ⟨(Nat.le_of_ble_eq_true rfl), (Nat.le_of_ble_eq_true rfl)⟩) (x_preLK _ hw hA hGL hi) rfl rfl hl.1 rfl (lv_room (Nat.le_of_ble_eq_true rfl)) dJ5_inflateIfNeededFor_a7421_11 ⟨(Nat.le_of_ble_eq_true rfl), (Nat.le_of_ble_eq_true rfl)⟩) hw hA (fun H locs hw => ?_)
  refine lv_icmp_eq (tgt := 21) hx hb dJ5_inflateIfNeededFor_a7421_14 (by decide) (fun _ => ?_) (fun cx => absurd rfl cx)
  exact x_Jvret hx hb hr hlk hw rfl (Nat.le_of_ble_eq_true rfl) (Nat.le_of_ble_eq_true rfl) dJ5_inflateIfNeededFor_a7421_21

abbrev rmJ5_putStringAt_47b60 : Room := { frames := 2, cells := 0, slots := 0, locals := 100 }
set_option maxRecDepth 100000 in
set_option maxHeartbeats 4000000 in
theorem mJ5_putString {l : Launch} {E : xE} {h v n m i : Nat} {ml : Int32} {a : Nat → Int32} (hi : i < 2) (hm : m ≤ 100) (hn : n + skW i ≤ m) (σ : xSt) : xJv l yJ5_putStringAt_47b60 wsJ5_putStringAt_47b60 rmJ5_putStringAt_47b60 E [(h, sbO v ml n), (v, xBytes (E.g.2.2 21) m a)] [.ref h, .int (nI n), .ref (E.g.2.2 (12 + i))] σ (fun X1 => X1 = [(h, sbO v ml n), (v, xBytes (E.g.2.2 21) m (va_cpy (skB i) a 0 n (skW i)))]) 0 0 := by
  intro sz
  refine xJ_of (cc := cJ5_putStringAt_47b60) (maxL := 3) (ret := none) (QF := fun B => xQv2 E B (fun X1 => X1 = [(h, sbO v ml n), (v, xBytes (E.g.2.2 21) m (va_cpy (skB i) a 0 n (skW i)))]) σ) sz (by decide) rfl (Nat.le_of_ble_eq_true rfl) ?_
  intro p e s m9 args below meth c9 A ls ⟨hx, hb, hr, hml, hown, hts, hlk⟩ hnm hA hGL hw hl
  have hown : s.vm.findClass RJ5 = some m9.cls := hown
  have hl : lv_has ls 3 [(0, .ref h), (1, .int (nI n)), (2, .ref (E.g.2.2 (12 + i)))] := hl
  have hB : ArrOfT s (E.g.2.2 21) .byte ∧ va_RA s (E.g.2.2 21) .byte := hGL.kb
  have hiJ4 : ∀ w ∈ wsJ40, w ∈ wsJ5_putStringAt_47b60 := by decide +kernel
  refine lv_aload_n hx hb dJ5_putStringAt_47b60_0 rfl (lv_at hl 0 rfl) ?_
  refine lv_aload_n hx hb dJ5_putStringAt_47b60_1 rfl (lv_at hl 2 rfl) ?_
  refine x_callJv (va_runU (As := [.ref (E.g.2.2 (12 + i))]) (rest := []) ⟨hx, hb, hml, hown, hts⟩ (mJ5_inflateIf (E := E) (X := [(h, sbO v ml n), (v, xBytes (E.g.2.2 21) m a)]) 0 hi rfl σ s.heap.size) (va_cwU 1 hts gJ5_putStringAt_47b60_J5_inflateIfNeededFor_a7421_u397J4 rfl rfl rfl rfl (by decide +kernel) ⟨(Nat.le_of_ble_eq_true rfl), (Nat.le_of_ble_eq_true rfl)⟩) (x_preLX _ hw hA hGL (q := 0) rfl rfl) rfl rfl hl.1 rfl (lv_room (Nat.le_of_ble_eq_true rfl)) dJ5_putStringAt_47b60_2 ⟨(Nat.le_of_ble_eq_true rfl), (Nat.le_of_ble_eq_true rfl)⟩) hw hA (fun X1 H locs hX hw => ?_)
  rw [hX] at hw
  refine lv_aload_n hx hb dJ5_putStringAt_47b60_5 rfl (lv_at hl 2 rfl) ?_
  refine lv_aload_n hx hb dJ5_putStringAt_47b60_6 rfl (lv_at hl 0 rfl) ?_
  refine x_getX hx hb hw 0 rfl (own := RJ5) (ref := "java/lang/AbstractStringBuilder") (C := RJ4) (T := TJ4) (N := 4) hts hiJ4 hown rfl 0 (by decide) (hts (.fieldLink RJ5 15 "java/lang/AbstractStringBuilder" "value" "[B") (by decide +kernel)) (fun _ h9 => h9) rfl dJ5_putStringAt_47b60_7 ?_
  refine lv_iload_n hx hb dJ5_putStringAt_47b60_10 rfl (lv_at hl 1 rfl) ?_
  refine lv_aload_n hx hb dJ5_putStringAt_47b60_11 rfl (lv_at hl 0 rfl) ?_
  refine x_getX hx hb hw 0 rfl (own := RJ5) (ref := "java/lang/AbstractStringBuilder") (C := RJ4) (T := TJ4) (N := 4) hts hiJ4 hown rfl 1 (by decide) (hts (.fieldLink RJ5 22 "java/lang/AbstractStringBuilder" "coder" "B") (by decide +kernel)) (fun _ h9 => h9) rfl dJ5_putStringAt_47b60_12 ?_
  refine x_callJv (va_runV (As := [.ref v, .int (nI n), .int 0]) (rest := []) ⟨hx, hb, hml, hown, hts⟩ (mJ0_getBytes (E := E) (X := [(h, sbO v ml n), (v, xBytes (E.g.2.2 21) m a)]) 1 hi rfl hm hn σ H.size) (cwV 3 hts gJ5_putStringAt_47b60_J0_getBytes_840e7 rfl rfl rfl (by decide +kernel) ⟨(Nat.le_of_ble_eq_true rfl), (Nat.le_of_ble_eq_true rfl)⟩) (x_preLK _ hw hA hGL hi) rfl rfl hl.1 rfl (lv_room (Nat.le_of_ble_eq_true rfl)) dJ5_putStringAt_47b60_15 ⟨(Nat.le_of_ble_eq_true rfl), (Nat.le_of_ble_eq_true rfl)⟩) hw hA (fun X1 H locs hX hw => ?_)
  subst hX
  replace hw : xw (xPlus E ((h, sbO v ml n) :: (v, xBytes (E.g.2.2 21) m (va_cpy (skB i) a 0 n (skW i))) :: [])) A s.heap s σ H locs := hw
  exact x_Jvret hx hb hr hlk hw rfl (Nat.le_of_ble_eq_true rfl) (Nat.le_of_ble_eq_true rfl) dJ5_putStringAt_47b60_18

abbrev rmJ5_append_cf1ce : Room := { frames := 4, cells := 1, slots := 70, locals := 170 }
set_option maxRecDepth 100000 in
set_option maxHeartbeats 4000000 in
theorem mJ5_appendStr {l : Launch} {E : xE} {h v n m i : Nat} {ml : Int32} {t : Nat → Nat} {a : Nat → Int32} (hM : sbM m) (hn : n ≤ m) (hf : sb_Fit a) (hL : sb_Lat t n a) (hi : i < 2) (h48 : n ≤ 48) (σ : xSt) : xJr l yJ5_append_cf1ce wsJ5_append_cf1ce rmJ5_append_cf1ce E [(h, sbO v ml n), (v, xBytes (E.g.2.2 21) m a)] [.ref h, .ref (E.g.2.2 (12 + i))] σ (fun X1 r => r = h ∧ sbP h (E.g.2.2 21) (n + skW i) (sb_cat t n (skT i)) X1) 1 70 := by
  intro sz
  refine xJ_of (cc := cJ5_append_cf1ce) (maxL := 3) (ret := (some (.object "java/lang/AbstractStringBuilder"))) (QF := fun B => xQr2 E B (fun X1 r => r = h ∧ sbP h (E.g.2.2 21) (n + skW i) (sb_cat t n (skT i)) X1) σ) sz (by decide) rfl (Nat.le_of_ble_eq_true rfl) ?_
  intro p e s m9 args below meth c9 A ls ⟨hx, hb, hr, hml, hown, hts, hlk⟩ hnm hA hGL hw hl
  have hown : s.vm.findClass RJ5 = some m9.cls := hown
  have hl : lv_has ls 3 [(0, .ref h), (1, .ref (E.g.2.2 (12 + i)))] := hl
  have hB : ArrOfT s (E.g.2.2 21) .byte ∧ va_RA s (E.g.2.2 21) .byte := hGL.kb
  have hiJ4 : ∀ w ∈ wsJ40, w ∈ wsJ5_append_cf1ce := by decide +kernel
  have hw2 := skW_le hi
  refine lv_aload_n hx hb dJ5_append_cf1ce_0 rfl (lv_at hl 1 rfl) ?_
  refine lv_ifnonnull (tgt := 9) hx hb dJ5_append_cf1ce_1 (by decide) ?_
  refine lv_aload_n hx hb dJ5_append_cf1ce_9 rfl (lv_at hl 1 rfl) ?_
  refine x_callLi (va_runV (As := []) (rest := []) ⟨hx, hb, hml, hown, hts⟩ (mJ0_lengthK (E := xPlus E [(h, sbO v ml n), (v, xBytes (E.g.2.2 21) m a)]) hi σ s.heap.size) (cwV 0 hts gJ5_append_cf1ce_J0_length_8abf5 rfl rfl rfl (by decide +kernel) ⟨(Nat.le_of_ble_eq_true rfl), (Nat.le_of_ble_eq_true rfl)⟩) (x_preLK _ hw hA hGL hi) rfl rfl hl.1 rfl (lv_room (Nat.le_of_ble_eq_true rfl)) dJ5_append_cf1ce_10 ⟨(Nat.le_of_ble_eq_true rfl), (Nat.le_of_ble_eq_true rfl)⟩) hw hA (fun H locs hw => ?_)
  refine lv_istore_n (lv' := [(2, .int (nI (skW i))), (0, .ref h), (1, .ref (E.g.2.2 (12 + i)))]) hx hb dJ5_append_cf1ce_13 rfl hl (by decide) rfl (fun ls hl => ?_)
  refine lv_aload_n hx hb dJ5_append_cf1ce_14 rfl (lv_at hl 1 rfl) ?_
  refine lv_aload_n hx hb dJ5_append_cf1ce_15 rfl (lv_at hl 1 rfl) ?_
  refine x_getX hx hb hw 0 rfl (own := RJ5) (ref := "java/lang/AbstractStringBuilder") (C := RJ4) (T := TJ4) (N := 4) hts hiJ4 hown rfl 3 (by decide) (hts (.fieldLink RJ5 79 "java/lang/AbstractStringBuilder" "count" "I") (by decide +kernel)) (fun _ h9 => h9) rfl dJ5_append_cf1ce_16 ?_
  refine lv_iload_n hx hb dJ5_append_cf1ce_19 rfl (lv_at hl 0 rfl) ?_
  refine lv_iadd hx hb dJ5_append_cf1ce_20 ?_
  rw [nI_add]
  refine x_callJv (va_runU (As := [.int (nI (n + skW i))]) (rest := []) ⟨hx, hb, hml, hown, hts⟩ (mJ5_ensure (E := E) (v := v) (n := n) (ml := ml) (n + skW i) hM hf (by omega) (by omega) σ H.size) (va_cwU 1 hts gJ5_append_cf1ce_J5_ensureCapacityInternal_d00df_u100J4 rfl rfl rfl rfl (by decide +kernel) ⟨(Nat.le_of_ble_eq_true rfl), (Nat.le_of_ble_eq_true rfl)⟩) (x_preLX _ hw hA hGL (q := 0) rfl rfl) rfl rfl hl.1 rfl (lv_room (Nat.le_of_ble_eq_true rfl)) dJ5_append_cf1ce_21 ⟨(Nat.le_of_ble_eq_true rfl), (Nat.le_of_ble_eq_true rfl)⟩) hw hA (fun X1 H locs hX hw => ?_)
  obtain ⟨v1, m1, a1, rfl, hM1, hk1, hm1, hf1, ha1⟩ := hX
  have hm70 : m1 ≤ 70 := by rcases hM1 with rfl | rfl | rfl <;> decide
  refine lv_aload_n hx hb dJ5_append_cf1ce_24 rfl (lv_at hl 1 rfl) ?_
  refine lv_aload_n hx hb dJ5_append_cf1ce_25 rfl (lv_at hl 1 rfl) ?_
  refine x_getX hx hb hw 0 rfl (own := RJ5) (ref := "java/lang/AbstractStringBuilder") (C := RJ4) (T := TJ4) (N := 4) hts hiJ4 hown rfl 3 (by decide) (hts (.fieldLink RJ5 79 "java/lang/AbstractStringBuilder" "count" "I") (by decide +kernel)) (fun _ h9 => h9) rfl dJ5_append_cf1ce_26 ?_
  refine lv_aload_n hx hb dJ5_append_cf1ce_29 rfl (lv_at hl 2 rfl) ?_
  refine x_callJv (va_runU (As := [.int (nI n), .ref (E.g.2.2 (12 + i))]) (rest := []) ⟨hx, hb, hml, hown, hts⟩ (mJ5_putString (E := E) (h := h) (v := v1) (ml := ml) (a := a1) hi (by omega) hk1 σ H.size) (va_cwU 2 hts gJ5_append_cf1ce_J5_putStringAt_47b60_u208J4 rfl rfl rfl rfl (by decide +kernel) ⟨(Nat.le_of_ble_eq_true rfl), (Nat.le_of_ble_eq_true rfl)⟩) (x_preLX _ hw hA hGL (q := 0) rfl rfl) rfl rfl hl.1 rfl (lv_room (Nat.le_of_ble_eq_true rfl)) dJ5_append_cf1ce_30 ⟨(Nat.le_of_ble_eq_true rfl), (Nat.le_of_ble_eq_true rfl)⟩) hw hA (fun X1 H locs hX hw => ?_)
  subst hX
  refine lv_aload_n hx hb dJ5_append_cf1ce_33 rfl (lv_at hl 1 rfl) ?_
  refine lv_dup hx hb dJ5_append_cf1ce_34 rfl ?_
  refine x_getX hx hb hw 0 rfl (own := RJ5) (ref := "java/lang/AbstractStringBuilder") (C := RJ4) (T := TJ4) (N := 4) hts hiJ4 hown rfl 3 (by decide) (hts (.fieldLink RJ5 79 "java/lang/AbstractStringBuilder" "count" "I") (by decide +kernel)) (fun _ h9 => h9) rfl dJ5_append_cf1ce_35 ?_
  refine lv_iload_n hx hb dJ5_append_cf1ce_38 rfl (lv_at hl 0 rfl) ?_
  refine lv_iadd hx hb dJ5_append_cf1ce_39 ?_
  rw [nI_add]
  refine x_putX hx hb hw 0 rfl (own := RJ5) (ref := "java/lang/AbstractStringBuilder") (C := RJ4) (T := TJ4) (N := 4) hts hiJ4 tyJ4 tyJ4_ok nmJ4 hown rfl 3 (by decide) (hts (.fieldLink RJ5 79 "java/lang/AbstractStringBuilder" "count" "I") (by decide +kernel)) (fun _ h9 => h9) rfl (tyJ4_ok 3 (by decide)) rfl rfl (Nat.le_of_ble_eq_true rfl) dJ5_append_cf1ce_40 (fun H locs hw => ?_)
  replace hw : xw (xPlus E ((h, .inr (15, [.ref v1, .int 0, .int ml, .int (nI (n + skW i))])) :: (v1, xBytes (E.g.2.2 21) m1 (va_cpy (skB i) a1 0 n (skW i))) :: [])) A s.heap s σ H locs := hw
  refine lv_aload_n hx hb dJ5_append_cf1ce_43 rfl (lv_at hl 1 rfl) ?_
  exact x_Jaret hx hb hr (Or.inl ⟨_, rfl⟩) hlk hw ⟨rfl, v1, m1, ml, _, rfl, hM1, by omega, sb_fitC (skB_fit hi) hf1, sb_latPut hL (fun j hj => by rw [pk_cpy_out (by omega)]; exact ha1 j (by omega)) (fun z hz => by rw [pk_cpy_in (by omega) (by omega), show 0 + (n + z - n) = z by omega]; exact skB_b hi hz)⟩ (Nat.le_of_ble_eq_true rfl) (Nat.le_of_ble_eq_true rfl) dJ5_append_cf1ce_44

abbrev rmJ4_append_15ec4 : Room := { frames := 5, cells := 1, slots := 70, locals := 210 }
set_option maxRecDepth 100000 in
set_option maxHeartbeats 4000000 in
theorem mJ4_appendStr {l : Launch} {E : xE} {h v n m i : Nat} {ml : Int32} {t : Nat → Nat} {a : Nat → Int32} (hM : sbM m) (hn : n ≤ m) (hf : sb_Fit a) (hL : sb_Lat t n a) (hi : i < 2) (h48 : n ≤ 48) (σ : xSt) : xJr l yJ4_append_15ec4 wsJ4_append_15ec4 rmJ4_append_15ec4 E [(h, sbO v ml n), (v, xBytes (E.g.2.2 21) m a)] [.ref h, .ref (E.g.2.2 (12 + i))] σ (fun X1 r => r = h ∧ sbP h (E.g.2.2 21) (n + skW i) (sb_cat t n (skT i)) X1) 1 70 := by
  intro sz
  refine xJ_of (cc := cJ4_append_15ec4) (maxL := 2) (ret := (some (.object "java/lang/StringBuilder"))) (QF := fun B => xQr2 E B (fun X1 r => r = h ∧ sbP h (E.g.2.2 21) (n + skW i) (sb_cat t n (skT i)) X1) σ) sz (by decide) rfl (Nat.le_of_ble_eq_true rfl) ?_
  intro p e s m9 args below meth c9 A ls ⟨hx, hb, hr, hml, hown, hts, hlk⟩ hnm hA hGL hw hl
  have hown : s.vm.findClass RJ4 = some m9.cls := hown
  have hl : lv_has ls 2 [(0, .ref h), (1, .ref (E.g.2.2 (12 + i)))] := hl
  have hB : ArrOfT s (E.g.2.2 21) .byte ∧ va_RA s (E.g.2.2 21) .byte := hGL.kb
  refine lv_aload_n hx hb dJ4_append_15ec4_0 rfl (lv_at hl 0 rfl) ?_
  refine lv_aload_n hx hb dJ4_append_15ec4_1 rfl (lv_at hl 1 rfl) ?_
  have hat := (hw.1.1 15 _ rfl).2
  refine x_callJr (va_runSU hat (As := [.ref (E.g.2.2 (12 + i))]) (rest := []) ⟨hx, hb, hml, hown, hts⟩ (mJ5_appendStr (E := E) (h := h) (v := v) (ml := ml) hM hn hf hL hi h48 σ s.heap.size) (va_cwSU 1 hts gJ4_append_15ec4_J5_append_cf1ce_s29 rfl rfl rfl (by decide +kernel) ⟨(Nat.le_of_ble_eq_true rfl), (Nat.le_of_ble_eq_true rfl)⟩) (x_preLX _ hw hA hGL (q := 0) rfl rfl) rfl rfl hl.1 rfl (lv_room (Nat.le_of_ble_eq_true rfl)) dJ4_append_15ec4_2 ⟨(Nat.le_of_ble_eq_true rfl), (Nat.le_of_ble_eq_true rfl)⟩) hw hA (fun X1 r H locs hX hw => ?_)
  refine lv_pop hx hb dJ4_append_15ec4_5 rfl ?_
  refine lv_aload_n hx hb dJ4_append_15ec4_6 rfl (lv_at hl 0 rfl) ?_
  exact x_Jaret hx hb hr (Or.inl ⟨_, rfl⟩) hlk hw ⟨rfl, hX.2⟩ (Nat.le_of_ble_eq_true rfl) (Nat.le_of_ble_eq_true rfl) dJ4_append_15ec4_7

abbrev rmJ5_append_3fe6f : Room := { frames := 4, cells := 1, slots := 70, locals := 170 }
set_option maxRecDepth 100000 in
set_option maxHeartbeats 4000000 in
theorem mJ5_appendChar {l : Launch} {E : xE} {h v n m ch : Nat} {ml : Int32} {t : Nat → Nat} {a : Nat → Int32} (hM : sbM m) (hn : n ≤ m) (hf : sb_Fit a) (hL : sb_Lat t n a) (hch : ch < 128) (h48 : n ≤ 48) (σ : xSt) : xJr l yJ5_append_3fe6f wsJ5_append_3fe6f rmJ5_append_3fe6f E [(h, sbO v ml n), (v, xBytes (E.g.2.2 21) m a)] [.ref h, .int (nI ch)] σ (fun X1 r => r = h ∧ sbP h (E.g.2.2 21) (n + 1) (sb_cat t n (fun _ => ch)) X1) 1 70 := by
  intro sz
  refine xJ_of (cc := cJ5_append_3fe6f) (maxL := 2) (ret := (some (.object "java/lang/AbstractStringBuilder"))) (QF := fun B => xQr2 E B (fun X1 r => r = h ∧ sbP h (E.g.2.2 21) (n + 1) (sb_cat t n (fun _ => ch)) X1) σ) sz (by decide) rfl (Nat.le_of_ble_eq_true rfl) ?_
  intro p e s m9 args below meth c9 A ls ⟨hx, hb, hr, hml, hown, hts, hlk⟩ hnm hA hGL hw hl
  have hown : s.vm.findClass RJ5 = some m9.cls := hown
  have hl : lv_has ls 2 [(0, .ref h), (1, .int (nI ch))] := hl
  have hB : ArrOfT s (E.g.2.2 21) .byte ∧ va_RA s (E.g.2.2 21) .byte := hGL.kb
  have hiJ4 : ∀ w ∈ wsJ40, w ∈ wsJ5_append_3fe6f := by decide +kernel
  have hs1 : nI n + 1 = nI (n + 1) := (nI_succ n).symm
  refine lv_aload_n hx hb dJ5_append_3fe6f_0 rfl (lv_at hl 0 rfl) ?_
  refine lv_aload_n hx hb dJ5_append_3fe6f_1 rfl (lv_at hl 0 rfl) ?_
  refine x_getX hx hb hw 0 rfl (own := RJ5) (ref := "java/lang/AbstractStringBuilder") (C := RJ4) (T := TJ4) (N := 4) hts hiJ4 hown rfl 3 (by decide) (hts (.fieldLink RJ5 79 "java/lang/AbstractStringBuilder" "count" "I") (by decide +kernel)) (fun _ h9 => h9) rfl dJ5_append_3fe6f_2 ?_
  refine lv_iconst (v := 1) hx hb dJ5_append_3fe6f_5 (by decide) ?_
  refine lv_iadd hx hb dJ5_append_3fe6f_6 ?_
  rw [hs1]
  refine x_callJv (va_runU (As := [.int (nI (n + 1))]) (rest := []) ⟨hx, hb, hml, hown, hts⟩ (mJ5_ensure (E := E) (v := v) (n := n) (ml := ml) (n + 1) hM hf (by omega) (by omega) σ s.heap.size) (va_cwU 1 hts gJ5_append_3fe6f_J5_ensureCapacityInternal_d00df_u100J4 rfl rfl rfl rfl (by decide +kernel) ⟨(Nat.le_of_ble_eq_true rfl), (Nat.le_of_ble_eq_true rfl)⟩) (x_preLX _ hw hA hGL (q := 0) rfl rfl) rfl rfl hl.1 rfl (lv_room (Nat.le_of_ble_eq_true rfl)) dJ5_append_3fe6f_7 ⟨(Nat.le_of_ble_eq_true rfl), (Nat.le_of_ble_eq_true rfl)⟩) hw hA (fun X1 H locs hX hw => ?_)
  obtain ⟨v1, m1, a1, rfl, hM1, hk1, hm1, hf1, ha1⟩ := hX
  have hm70 : m1 ≤ 70 := by rcases hM1 with rfl | rfl | rfl <;> decide
  refine lv_aload_n hx hb dJ5_append_3fe6f_10 rfl (lv_at hl 0 rfl) ?_
  refine x_callLi (va_runU (As := []) (rest := []) ⟨hx, hb, hml, hown, hts⟩ (mJ5_isLatin1 (E := E) (X := [(h, sbO v1 ml n), (v1, xBytes (E.g.2.2 21) m1 a1)]) 0 rfl σ H.size) (va_cwU 0 hts gJ5_append_3fe6f_J5_isLatin1_aae02_u83J4 rfl rfl rfl rfl (by decide +kernel) ⟨(Nat.le_of_ble_eq_true rfl), (Nat.le_of_ble_eq_true rfl)⟩) (x_preLX _ hw hA hGL (q := 0) rfl rfl) rfl rfl hl.1 rfl (lv_room (Nat.le_of_ble_eq_true rfl)) dJ5_append_3fe6f_11 ⟨(Nat.le_of_ble_eq_true rfl), (Nat.le_of_ble_eq_true rfl)⟩) hw hA (fun H locs hw => ?_)
  refine lv_if_eq (tgt := 45) hx hb dJ5_append_3fe6f_14 (by decide) (fun cx => absurd cx (by decide)) (fun _ => ?_)
  refine lv_iload_n hx hb dJ5_append_3fe6f_17 rfl (lv_at hl 1 rfl) ?_
  refine x_callLi (va_runS (As := [.int (nI ch)]) (rest := []) ⟨hx, hb, hml, hown, hts⟩ (mJ1_canEncode (E := xPlus E [(h, sbO v1 ml n), (v1, xBytes (E.g.2.2 21) m1 a1)]) (nI ch) (nI_nlt (a := 255) (by omega) (by omega)) σ H.size) (va_cwS 1 hts gJ5_append_3fe6f_J1_canEncode_fc78d rfl rfl rfl (by decide +kernel) ⟨(Nat.le_of_ble_eq_true rfl), (Nat.le_of_ble_eq_true rfl)⟩) (x_preLS _ hw hA hGL) rfl rfl hl.1 rfl (lv_room (Nat.le_of_ble_eq_true rfl)) dJ5_append_3fe6f_18 ⟨(Nat.le_of_ble_eq_true rfl), (Nat.le_of_ble_eq_true rfl)⟩) hw hA (fun H locs hw => ?_)
  refine lv_if_eq (tgt := 45) hx hb dJ5_append_3fe6f_21 (by decide) (fun cx => absurd cx (by decide)) (fun _ => ?_)
  refine lv_aload_n hx hb dJ5_append_3fe6f_24 rfl (lv_at hl 0 rfl) ?_
  refine x_getX hx hb hw 0 rfl (own := RJ5) (ref := "java/lang/AbstractStringBuilder") (C := RJ4) (T := TJ4) (N := 4) hts hiJ4 hown rfl 0 (by decide) (hts (.fieldLink RJ5 15 "java/lang/AbstractStringBuilder" "value" "[B") (by decide +kernel)) (fun _ h9 => h9) rfl dJ5_append_3fe6f_25 ?_
  refine lv_aload_n hx hb dJ5_append_3fe6f_28 rfl (lv_at hl 0 rfl) ?_
  refine lv_dup hx hb dJ5_append_3fe6f_29 rfl ?_
  refine x_getX hx hb hw 0 rfl (own := RJ5) (ref := "java/lang/AbstractStringBuilder") (C := RJ4) (T := TJ4) (N := 4) hts hiJ4 hown rfl 3 (by decide) (hts (.fieldLink RJ5 79 "java/lang/AbstractStringBuilder" "count" "I") (by decide +kernel)) (fun _ h9 => h9) rfl dJ5_append_3fe6f_30 ?_
  refine lv_dup_x1 hx hb dJ5_append_3fe6f_33 rfl rfl ?_
  refine lv_iconst (v := 1) hx hb dJ5_append_3fe6f_34 (by decide) ?_
  refine lv_iadd hx hb dJ5_append_3fe6f_35 ?_
  rw [hs1]
  refine x_putX hx hb hw 0 rfl (own := RJ5) (ref := "java/lang/AbstractStringBuilder") (C := RJ4) (T := TJ4) (N := 4) hts hiJ4 tyJ4 tyJ4_ok nmJ4 hown rfl 3 (by decide) (hts (.fieldLink RJ5 79 "java/lang/AbstractStringBuilder" "count" "I") (by decide +kernel)) (fun _ h9 => h9) rfl (tyJ4_ok 3 (by decide)) rfl rfl (Nat.le_of_ble_eq_true rfl) dJ5_append_3fe6f_36 (fun H locs hw => ?_)
  replace hw : xw (xPlus E ((h, .inr (15, [.ref v1, .int 0, .int ml, .int (nI (n + 1))])) :: (v1, xBytes (E.g.2.2 21) m1 a1) :: [])) A s.heap s σ H locs := hw
  refine lv_iload_n hx hb dJ5_append_3fe6f_39 rfl (lv_at hl 1 rfl) ?_
  refine lv_i2b (v := sb_b ch) hx hb dJ5_append_3fe6f_40 rfl ?_
  refine x_bst hx hb hB hw 1 rfl (nI_in (by omega) (by omega)) dJ5_append_3fe6f_41 (fun H locs hw => ?_)
  rw [nI_clamp (show n < 2 ^ 31 by omega), show vp_nar .byte (sb_b ch) = sb_b ch from pk_vb _] at hw
  replace hw : xw (xPlus E ((h, sbO v1 ml (n + 1)) :: (v1, xBytes (E.g.2.2 21) m1 (upd a1 n (sb_b ch))) :: [])) A s.heap s σ H locs := hw
  refine lv_goto (tgt := 75) hx hb dJ5_append_3fe6f_42 (by decide) ?_
  refine lv_aload_n hx hb dJ5_append_3fe6f_75 rfl (lv_at hl 0 rfl) ?_
  exact x_Jaret hx hb hr (Or.inl ⟨_, rfl⟩) hlk hw ⟨rfl, v1, m1, ml, _, rfl, hM1, by omega, sb_fitU hf1 (sb_fitB ch), sb_latPut hL (fun j hj => by rw [pk_un (by omega)]; exact ha1 j (by omega)) (fun z hz => by obtain rfl : z = 0 := (by omega); exact ⟨by omega, pk_us⟩)⟩ (Nat.le_of_ble_eq_true rfl) (Nat.le_of_ble_eq_true rfl) dJ5_append_3fe6f_76

abbrev rmJ4_append_cf468 : Room := { frames := 5, cells := 1, slots := 70, locals := 210 }
set_option maxRecDepth 100000 in
set_option maxHeartbeats 4000000 in
theorem mJ4_appendChar {l : Launch} {E : xE} {h v n m ch : Nat} {ml : Int32} {t : Nat → Nat} {a : Nat → Int32} (hM : sbM m) (hn : n ≤ m) (hf : sb_Fit a) (hL : sb_Lat t n a) (hch : ch < 128) (h48 : n ≤ 48) (σ : xSt) : xJr l yJ4_append_cf468 wsJ4_append_cf468 rmJ4_append_cf468 E [(h, sbO v ml n), (v, xBytes (E.g.2.2 21) m a)] [.ref h, .int (nI ch)] σ (fun X1 r => r = h ∧ sbP h (E.g.2.2 21) (n + 1) (sb_cat t n (fun _ => ch)) X1) 1 70 := by
  intro sz
  refine xJ_of (cc := cJ4_append_cf468) (maxL := 2) (ret := (some (.object "java/lang/StringBuilder"))) (QF := fun B => xQr2 E B (fun X1 r => r = h ∧ sbP h (E.g.2.2 21) (n + 1) (sb_cat t n (fun _ => ch)) X1) σ) sz (by decide) rfl (Nat.le_of_ble_eq_true rfl) ?_
  intro p e s m9 args below meth c9 A ls ⟨hx, hb, hr, hml, hown, hts, hlk⟩ hnm hA hGL hw hl
  have hown : s.vm.findClass RJ4 = some m9.cls := hown
  have hl : lv_has ls 2 [(0, .ref h), (1, .int (nI ch))] := hl
  have hB : ArrOfT s (E.g.2.2 21) .byte ∧ va_RA s (E.g.2.2 21) .byte := hGL.kb
  refine lv_aload_n hx hb dJ4_append_cf468_0 rfl (lv_at hl 0 rfl) ?_
  refine lv_iload_n hx hb dJ4_append_cf468_1 rfl (lv_at hl 1 rfl) ?_
  have hat := (hw.1.1 15 _ rfl).2
  refine x_callJr (va_runSU hat (As := [.int (nI ch)]) (rest := []) ⟨hx, hb, hml, hown, hts⟩ (mJ5_appendChar (E := E) (h := h) (v := v) (ml := ml) hM hn hf hL hch h48 σ s.heap.size) (va_cwSU 1 hts gJ4_append_cf468_J5_append_3fe6f_s50 rfl rfl rfl (by decide +kernel) ⟨(Nat.le_of_ble_eq_true rfl), (Nat.le_of_ble_eq_true rfl)⟩) (x_preLX _ hw hA hGL (q := 0) rfl rfl) rfl rfl hl.1 rfl (lv_room (Nat.le_of_ble_eq_true rfl)) dJ4_append_cf468_2 ⟨(Nat.le_of_ble_eq_true rfl), (Nat.le_of_ble_eq_true rfl)⟩) hw hA (fun X1 r H locs hX hw => ?_)
  refine lv_pop hx hb dJ4_append_cf468_5 rfl ?_
  refine lv_aload_n hx hb dJ4_append_cf468_6 rfl (lv_at hl 0 rfl) ?_
  exact x_Jaret hx hb hr (Or.inl ⟨_, rfl⟩) hlk hw ⟨rfl, hX.2⟩ (Nat.le_of_ble_eq_true rfl) (Nat.le_of_ble_eq_true rfl) dJ4_append_cf468_7

abbrev rmJ6_stringSize_0f7a4 : Room := { frames := 0, cells := 0, slots := 0, locals := 0 }
set_option maxRecDepth 100000 in
set_option maxHeartbeats 4000000 in
theorem mJ6_size1 {l : Launch} {E : xE} (w : Nat) (h1 : w < 10) (σ : xSt) : xLi l yJ6_stringSize_0f7a4 wsJ6_stringSize_0f7a4 rmJ6_stringSize_0f7a4 E [.int (nI w)] σ (nI 1) σ 0 0 := by
  refine xLi_of (cc := cJ6_stringSize_0f7a4) (maxL := 4) (ret := (some .int)) (by decide) rfl (Nat.le_of_ble_eq_true rfl) ?_
  intro p e s m9 args below meth c9 A ls ⟨hx, hb, hr, hml, hown, hts, hlk⟩ hA hGL hw hl
  have hown : s.vm.findClass RJ6 = some m9.cls := hown
  have hl : lv_has ls 4 [(0, .int (nI w))] := hl
  have hB : ArrOfT s (E.g.2.2 21) .byte ∧ va_RA s (E.g.2.2 21) .byte := hGL.kb
  refine lv_iconst (v := 1) hx hb dJ6_stringSize_0f7a4_0 (by decide) ?_
  refine lv_istore_n (lv' := [(1, .int 1), (0, .int (nI w))]) hx hb dJ6_stringSize_0f7a4_1 rfl hl (by decide) rfl (fun ls hl => ?_)
  refine lv_iload_n hx hb dJ6_stringSize_0f7a4_2 rfl (lv_at hl 1 rfl) ?_
  refine lv_if_lt (tgt := 11) hx hb dJ6_stringSize_0f7a4_3 (by decide) (fun cx => absurd cx (nI_pos (by omega))) (fun _ => ?_)
  refine lv_iconst (v := 0) hx hb dJ6_stringSize_0f7a4_6 (by decide) ?_
  refine lv_istore_n (lv' := [(1, .int 0), (0, .int (nI w))]) hx hb dJ6_stringSize_0f7a4_7 rfl hl (by decide) rfl (fun ls hl => ?_)
  refine lv_iload_n hx hb dJ6_stringSize_0f7a4_8 rfl (lv_at hl 1 rfl) ?_
  refine lv_ineg hx hb dJ6_stringSize_0f7a4_9 ?_
  refine lv_istore_n (lv' := [(0, .int (-(nI w))), (1, .int 0)]) hx hb dJ6_stringSize_0f7a4_10 rfl hl (by decide) rfl (fun ls hl => ?_)
  refine lv_bipush (v := (-10)) hx hb dJ6_stringSize_0f7a4_11 (by decide) ?_
  refine lv_istore_n (lv' := [(2, .int (-10)), (0, .int (-(nI w))), (1, .int 0)]) hx hb dJ6_stringSize_0f7a4_13 rfl hl (by decide) rfl (fun ls hl => ?_)
  refine lv_iconst (v := 1) hx hb dJ6_stringSize_0f7a4_14 (by decide) ?_
  refine lv_istore_n (lv' := [(3, .int 1), (2, .int (-10)), (0, .int (-(nI w))), (1, .int 0)]) hx hb dJ6_stringSize_0f7a4_15 rfl hl (by decide) rfl (fun ls hl => ?_)
  refine lv_iload_n hx hb dJ6_stringSize_0f7a4_16 rfl (lv_at hl 0 rfl) ?_
  refine lv_bipush (v := 10) hx hb dJ6_stringSize_0f7a4_17 (by decide) ?_
  refine lv_icmp_ge (tgt := 42) hx hb dJ6_stringSize_0f7a4_19 (by decide) (fun cx => absurd cx (by decide)) (fun _ => ?_)
  refine lv_iload_n hx hb dJ6_stringSize_0f7a4_22 rfl (lv_at hl 2 rfl) ?_
  refine lv_iload_n hx hb dJ6_stringSize_0f7a4_23 rfl (lv_at hl 1 rfl) ?_
  refine lv_icmp_le (tgt := 31) hx hb dJ6_stringSize_0f7a4_24 (by decide) (fun cx => absurd cx (by rw [show (-10 : Int32) = -nI 10 from rfl, sb_nle (by omega) (by decide)]; omega)) (fun _ => ?_)
  refine lv_iload_n hx hb dJ6_stringSize_0f7a4_27 rfl (lv_at hl 0 rfl) ?_
  refine lv_iload_n hx hb dJ6_stringSize_0f7a4_28 rfl (lv_at hl 3 rfl) ?_
  refine lv_iadd hx hb dJ6_stringSize_0f7a4_29 ?_
  rw [show (1 : Int32) + 0 = nI 1 by decide]
  exact x_Jiret hx hb hr rfl hlk hw (Nat.le_of_ble_eq_true rfl) (Nat.le_of_ble_eq_true rfl) dJ6_stringSize_0f7a4_30

set_option maxRecDepth 100000 in
set_option maxHeartbeats 4000000 in
theorem mJ6_size2 {l : Launch} {E : xE} (w : Nat) (h1 : 10 ≤ w) (h2 : w < 100) (σ : xSt) : xLi l yJ6_stringSize_0f7a4 wsJ6_stringSize_0f7a4 rmJ6_stringSize_0f7a4 E [.int (nI w)] σ (nI 2) σ 0 0 := by
  refine xLi_of (cc := cJ6_stringSize_0f7a4) (maxL := 4) (ret := (some .int)) (by decide) rfl (Nat.le_of_ble_eq_true rfl) ?_
  intro p e s m9 args below meth c9 A ls ⟨hx, hb, hr, hml, hown, hts, hlk⟩ hA hGL hw hl
  have hown : s.vm.findClass RJ6 = some m9.cls := hown
  have hl : lv_has ls 4 [(0, .int (nI w))] := hl
  have hB : ArrOfT s (E.g.2.2 21) .byte ∧ va_RA s (E.g.2.2 21) .byte := hGL.kb
  refine lv_iconst (v := 1) hx hb dJ6_stringSize_0f7a4_0 (by decide) ?_
  refine lv_istore_n (lv' := [(1, .int 1), (0, .int (nI w))]) hx hb dJ6_stringSize_0f7a4_1 rfl hl (by decide) rfl (fun ls hl => ?_)
  refine lv_iload_n hx hb dJ6_stringSize_0f7a4_2 rfl (lv_at hl 1 rfl) ?_
  refine lv_if_lt (tgt := 11) hx hb dJ6_stringSize_0f7a4_3 (by decide) (fun cx => absurd cx (nI_pos (by omega))) (fun _ => ?_)
  refine lv_iconst (v := 0) hx hb dJ6_stringSize_0f7a4_6 (by decide) ?_
  refine lv_istore_n (lv' := [(1, .int 0), (0, .int (nI w))]) hx hb dJ6_stringSize_0f7a4_7 rfl hl (by decide) rfl (fun ls hl => ?_)
  refine lv_iload_n hx hb dJ6_stringSize_0f7a4_8 rfl (lv_at hl 1 rfl) ?_
  refine lv_ineg hx hb dJ6_stringSize_0f7a4_9 ?_
  refine lv_istore_n (lv' := [(0, .int (-(nI w))), (1, .int 0)]) hx hb dJ6_stringSize_0f7a4_10 rfl hl (by decide) rfl (fun ls hl => ?_)
  refine lv_bipush (v := (-10)) hx hb dJ6_stringSize_0f7a4_11 (by decide) ?_
  refine lv_istore_n (lv' := [(2, .int (-10)), (0, .int (-(nI w))), (1, .int 0)]) hx hb dJ6_stringSize_0f7a4_13 rfl hl (by decide) rfl (fun ls hl => ?_)
  refine lv_iconst (v := 1) hx hb dJ6_stringSize_0f7a4_14 (by decide) ?_
  refine lv_istore_n (lv' := [(3, .int 1), (2, .int (-10)), (0, .int (-(nI w))), (1, .int 0)]) hx hb dJ6_stringSize_0f7a4_15 rfl hl (by decide) rfl (fun ls hl => ?_)
  refine lv_iload_n hx hb dJ6_stringSize_0f7a4_16 rfl (lv_at hl 0 rfl) ?_
  refine lv_bipush (v := 10) hx hb dJ6_stringSize_0f7a4_17 (by decide) ?_
  refine lv_icmp_ge (tgt := 42) hx hb dJ6_stringSize_0f7a4_19 (by decide) (fun cx => absurd cx (by decide)) (fun _ => ?_)
  refine lv_iload_n hx hb dJ6_stringSize_0f7a4_22 rfl (lv_at hl 2 rfl) ?_
  refine lv_iload_n hx hb dJ6_stringSize_0f7a4_23 rfl (lv_at hl 1 rfl) ?_
  refine lv_icmp_le (tgt := 31) hx hb dJ6_stringSize_0f7a4_24 (by decide) (fun _ => ?_) (fun cx => absurd (by rw [show (-10 : Int32) = -nI 10 from rfl, sb_nle (by omega) (by decide)]; omega) cx)
  refine lv_bipush (v := 10) hx hb dJ6_stringSize_0f7a4_31 (by decide) ?_
  refine lv_iload_n hx hb dJ6_stringSize_0f7a4_33 rfl (lv_at hl 1 rfl) ?_
  refine lv_imul hx hb dJ6_stringSize_0f7a4_34 ?_
  rw [show (10 : Int32) * (-10) = -100 by decide]
  refine lv_istore_n (lv' := [(2, .int (-100)), (3, .int 1), (0, .int (-(nI w))), (1, .int 0)]) hx hb dJ6_stringSize_0f7a4_35 rfl hl (by decide) rfl (fun ls hl => ?_)
  refine lv_iinc (v := 2) (lv' := [(3, .int 2), (2, .int (-100)), (0, .int (-(nI w))), (1, .int 0)]) hx hb dJ6_stringSize_0f7a4_36 hl (k := 1) rfl (by decide) (by decide) rfl (fun ls hl => ?_)
  refine lv_goto (tgt := 16) hx hb dJ6_stringSize_0f7a4_39 (by decide) ?_
  refine lv_iload_n hx hb dJ6_stringSize_0f7a4_16 rfl (lv_at hl 0 rfl) ?_
  refine lv_bipush (v := 10) hx hb dJ6_stringSize_0f7a4_17 (by decide) ?_
  refine lv_icmp_ge (tgt := 42) hx hb dJ6_stringSize_0f7a4_19 (by decide) (fun cx => absurd cx (by decide)) (fun _ => ?_)
  refine lv_iload_n hx hb dJ6_stringSize_0f7a4_22 rfl (lv_at hl 2 rfl) ?_
  refine lv_iload_n hx hb dJ6_stringSize_0f7a4_23 rfl (lv_at hl 1 rfl) ?_
  refine lv_icmp_le (tgt := 31) hx hb dJ6_stringSize_0f7a4_24 (by decide) (fun cx => absurd cx (by rw [show (-100 : Int32) = -nI 100 from rfl, sb_nle (by omega) (by decide)]; omega)) (fun _ => ?_)
  refine lv_iload_n hx hb dJ6_stringSize_0f7a4_27 rfl (lv_at hl 0 rfl) ?_
  refine lv_iload_n hx hb dJ6_stringSize_0f7a4_28 rfl (lv_at hl 3 rfl) ?_
  refine lv_iadd hx hb dJ6_stringSize_0f7a4_29 ?_
  rw [show (2 : Int32) + 0 = nI 2 by decide]
  exact x_Jiret hx hb hr rfl hlk hw (Nat.le_of_ble_eq_true rfl) (Nat.le_of_ble_eq_true rfl) dJ6_stringSize_0f7a4_30

theorem sbD1 {w : Nat} (h : w < 10) : sb_dg w = 1 := if_pos h
theorem sbD2 {w : Nat} (h1 : 10 ≤ w) (h2 : w < 100) : sb_dg w = 2 := by
  unfold sb_dg
  rw [if_neg (by omega), if_pos h2]
theorem mJ6_size {l : Launch} {E : xE} (w : Nat) (h2 : w < 100) (σ : xSt) : xLi l yJ6_stringSize_0f7a4 wsJ6_stringSize_0f7a4 rmJ6_stringSize_0f7a4 E [.int (nI w)] σ (nI (sb_dg w)) σ 0 0 := by
  by_cases h : w < 10
  · rw [sbD1 h]; exact mJ6_size1 w h σ
  · rw [sbD2 (by omega) h2]; exact mJ6_size2 w (by omega) h2 σ

theorem sbDec1 {w : Nat} (h : w < 10) : (xOnes w).toInt8.toInt32 = sb_b (sb_dec w 0) := by
  have h0 : ∀ w, w < 10 → (xOnes w).toInt8.toInt32 = sb_b (48 + w / 10 ^ (1 - 1 - 0) % 10) := by decide +kernel
  have h1 : sb_dec w 0 = 48 + w / 10 ^ (sb_dg w - 1 - 0) % 10 := rfl
  rw [h1, sbD1 h]
  exact h0 w h
theorem sbDec2 {w : Nat} (h : 10 ≤ w) (h2 : w < 100) : (xTens w).toInt8.toInt32 = sb_b (sb_dec w 0) ∧ (xOnes w).toInt8.toInt32 = sb_b (sb_dec w 1) := by
  have h0 : ∀ w, w < 100 → (xTens w).toInt8.toInt32 = sb_b (48 + w / 10 ^ (2 - 1 - 0) % 10) ∧ (xOnes w).toInt8.toInt32 = sb_b (48 + w / 10 ^ (2 - 1 - 1) % 10) := by decide +kernel
  have h1 : sb_dec w 0 = 48 + w / 10 ^ (sb_dg w - 1 - 0) % 10 := rfl
  have h3 : sb_dec w 1 = 48 + w / 10 ^ (sb_dg w - 1 - 1) % 10 := rfl
  rw [h1, h3, sbD2 h h2]
  exact h0 w h2
theorem sbDec256 (w i : Nat) : sb_dec w i < 256 := by unfold sb_dec; omega

abbrev rmJ6_getChars_ba4f3 : Room := { frames := 0, cells := 0, slots := 0, locals := 0 }
set_option maxRecDepth 100000 in
set_option maxHeartbeats 4000000 in
theorem mJ6_chars1 {l : Launch} {E : xE} {X : va_W} (q2 : Nat) {v m n : Nat} {a : Nat → Int32} (w : Nat) (hq2 : X[q2]? = some (v, xBytes (E.g.2.2 21) m a)) (hm : m ≤ 100) (h1 : w < 10) (hn : n + 1 ≤ m) (σ : xSt) : xJi l yJ6_getChars_ba4f3 wsJ6_getChars_ba4f3 rmJ6_getChars_ba4f3 E X [.int (nI w), .int (nI (n + 1)), .ref v] σ (fun X1 r => ∃ b : Nat → Int32, X1 = X.set q2 (v, xBytes (E.g.2.2 21) m b) ∧ (sb_Fit a → sb_Fit b) ∧ (∀ j, j < n → b j = a j) ∧ ∀ z, z < 1 → sb_dec w z < 256 ∧ b (n + z) = sb_b (sb_dec w z)) 0 0 := by
  intro sz
  refine xJ_of (cc := cJ6_getChars_ba4f3) (maxL := 7) (ret := (some .int)) (QF := fun B => xQi2 E B (fun X1 r => ∃ b : Nat → Int32, X1 = X.set q2 (v, xBytes (E.g.2.2 21) m b) ∧ (sb_Fit a → sb_Fit b) ∧ (∀ j, j < n → b j = a j) ∧ ∀ z, z < 1 → sb_dec w z < 256 ∧ b (n + z) = sb_b (sb_dec w z)) σ) sz (by decide) rfl (Nat.le_of_ble_eq_true rfl) ?_
  intro p e s m9 args below meth c9 A ls ⟨hx, hb, hr, hml, hown, hts, hlk⟩ hnm hA hGL hw hl
  have hown : s.vm.findClass RJ6 = some m9.cls := hown
  have hl : lv_has ls 7 [(0, .int (nI w)), (1, .int (nI (n + 1))), (2, .ref v)] := hl
  have hB : ArrOfT s (E.g.2.2 21) .byte ∧ va_RA s (E.g.2.2 21) .byte := hGL.kb
  have hdec : ∀ z : Nat, nI z + 1 + Int32.ofInt (-1) = nI z := fun z => by rw [show Int32.ofInt (-1) = -1 by decide, Int32.add_assoc, show (1 : Int32) + -1 = 0 by decide, Int32.add_zero]
  refine lv_iload_n hx hb dJ6_getChars_ba4f3_0 rfl (lv_at hl 1 rfl) ?_
  refine lv_istore (lv' := [(5, .int (nI (n + 1))), (0, .int (nI w)), (1, .int (nI (n + 1))), (2, .ref v)]) hx hb dJ6_getChars_ba4f3_1 hl (by decide) rfl (fun ls hl => ?_)
  refine lv_iload_n hx hb dJ6_getChars_ba4f3_3 rfl (lv_at hl 1 rfl) ?_
  refine lv_if_ge (tgt := 11) hx hb dJ6_getChars_ba4f3_4 (by decide) (fun _ => ?_) (fun cx => absurd (nI_pos' (by omega)) cx)
  refine lv_iconst (v := 0) hx hb dJ6_getChars_ba4f3_11 (by decide) ?_
  refine lv_istore (lv' := [(6, .int 0), (5, .int (nI (n + 1))), (0, .int (nI w)), (1, .int (nI (n + 1))), (2, .ref v)]) hx hb dJ6_getChars_ba4f3_12 hl (by decide) rfl (fun ls hl => ?_)
  refine lv_iload hx hb dJ6_getChars_ba4f3_14 (lv_at hl 0 rfl) ?_
  refine lv_if_ne (tgt := 22) hx hb dJ6_getChars_ba4f3_16 (by decide) (fun cx => absurd (by decide) cx) (fun _ => ?_)
  refine lv_iload_n hx hb dJ6_getChars_ba4f3_19 rfl (lv_at hl 2 rfl) ?_
  refine lv_ineg hx hb dJ6_getChars_ba4f3_20 ?_
  refine lv_istore_n (lv' := [(0, .int (-(nI w))), (6, .int 0), (5, .int (nI (n + 1))), (1, .int (nI (n + 1))), (2, .ref v)]) hx hb dJ6_getChars_ba4f3_21 rfl hl (by decide) rfl (fun ls hl => ?_)
  refine lv_iload_n hx hb dJ6_getChars_ba4f3_22 rfl (lv_at hl 0 rfl) ?_
  refine lv_bipush (v := (-100)) hx hb dJ6_getChars_ba4f3_23 (by decide) ?_
  refine lv_icmp_gt (tgt := 72) hx hb dJ6_getChars_ba4f3_25 (by decide) (fun _ => ?_) (fun cx => absurd (by rw [show (-100 : Int32) = -nI 100 from rfl, sb_nlt (by decide) (by omega)]; omega) cx)
  refine lv_aload_n hx hb dJ6_getChars_ba4f3_72 rfl (lv_at hl 4 rfl) ?_
  refine lv_iinc (v := (nI n)) (lv' := [(5, .int (nI n)), (0, .int (-(nI w))), (6, .int 0), (1, .int (nI (n + 1))), (2, .ref v)]) hx hb dJ6_getChars_ba4f3_73 hl (k := 2) rfl (by rw [nI_succ]; exact hdec n) (by decide) rfl (fun ls hl => ?_)
  refine lv_iload hx hb dJ6_getChars_ba4f3_76 (lv_at hl 0 rfl) ?_
  refine va_gets hx hb hGL.2.2.2.2.2.2.2.1.1 hw.2.2.2 hown (hts (.fieldLink RJ6 83 "java/lang/Integer" "DigitOnes" "[B") (by decide +kernel)) (fun _ h9 => h9) dJ6_getChars_ba4f3_78 ?_
  refine lv_iload_n hx hb dJ6_getChars_ba4f3_81 rfl (lv_at hl 1 rfl) ?_
  refine lv_ineg hx hb dJ6_getChars_ba4f3_82 ?_
  rw [Int32.neg_neg]
  refine va_tb hx hb hGL.2.2.2.2.2.2.2.1.2 hw.2.2.2 (v := .int (xOnes w)) (nI_in (show w < 100 by omega) (by decide)) (by rw [nI_clamp (show w < 2 ^ 31 by omega)]) dJ6_getChars_ba4f3_83 ?_
  refine x_bst hx hb hB hw q2 hq2 (nI_in (show n < m by omega) (by omega)) dJ6_getChars_ba4f3_84 (fun H locs hw => ?_)
  rw [nI_clamp (show n < 2 ^ 31 by omega), vp_nar_byte] at hw
  refine lv_iload_n hx hb dJ6_getChars_ba4f3_85 rfl (lv_at hl 1 rfl) ?_
  refine lv_bipush (v := (-9)) hx hb dJ6_getChars_ba4f3_86 (by decide) ?_
  refine lv_icmp_ge (tgt := 104) hx hb dJ6_getChars_ba4f3_88 (by decide) (fun _ => ?_) (fun cx => absurd (by rw [show (-9 : Int32) = -nI 9 from rfl, sb_nle (by decide) (by omega)]; omega) cx)
  refine lv_iload hx hb dJ6_getChars_ba4f3_104 (lv_at hl 2 rfl) ?_
  refine lv_if_eq (tgt := 118) hx hb dJ6_getChars_ba4f3_106 (by decide) (fun _ => ?_) (fun cx => absurd rfl cx)
  refine lv_iload hx hb dJ6_getChars_ba4f3_118 (lv_at hl 0 rfl) ?_
  exact x_Jiret2 hx hb hr rfl hlk hw ⟨_, rfl, fun hf => sb_fitU hf (pk_fb _), fun j hj => pk_un (by omega), fun z hz => by obtain rfl : z = 0 := (by omega); exact ⟨sbDec256 w 0, pk_us.trans (sbDec1 h1)⟩⟩ (Nat.le_of_ble_eq_true rfl) (Nat.le_of_ble_eq_true rfl) dJ6_getChars_ba4f3_120

set_option maxRecDepth 100000 in
set_option maxHeartbeats 4000000 in
theorem mJ6_chars2 {l : Launch} {E : xE} {X : va_W} (q2 : Nat) {v m n : Nat} {a : Nat → Int32} (w : Nat) (hq2 : X[q2]? = some (v, xBytes (E.g.2.2 21) m a)) (hm : m ≤ 100) (h1 : 10 ≤ w) (h2 : w < 100) (hn : n + 2 ≤ m) (σ : xSt) : xJi l yJ6_getChars_ba4f3 wsJ6_getChars_ba4f3 rmJ6_getChars_ba4f3 E X [.int (nI w), .int (nI (n + 2)), .ref v] σ (fun X1 r => ∃ b : Nat → Int32, X1 = X.set q2 (v, xBytes (E.g.2.2 21) m b) ∧ (sb_Fit a → sb_Fit b) ∧ (∀ j, j < n → b j = a j) ∧ ∀ z, z < 2 → sb_dec w z < 256 ∧ b (n + z) = sb_b (sb_dec w z)) 0 0 := by
  intro sz
  refine xJ_of (cc := cJ6_getChars_ba4f3) (maxL := 7) (ret := (some .int)) (QF := fun B => xQi2 E B (fun X1 r => ∃ b : Nat → Int32, X1 = X.set q2 (v, xBytes (E.g.2.2 21) m b) ∧ (sb_Fit a → sb_Fit b) ∧ (∀ j, j < n → b j = a j) ∧ ∀ z, z < 2 → sb_dec w z < 256 ∧ b (n + z) = sb_b (sb_dec w z)) σ) sz (by decide) rfl (Nat.le_of_ble_eq_true rfl) ?_
  intro p e s m9 args below meth c9 A ls ⟨hx, hb, hr, hml, hown, hts, hlk⟩ hnm hA hGL hw hl
  have hown : s.vm.findClass RJ6 = some m9.cls := hown
  have hl : lv_has ls 7 [(0, .int (nI w)), (1, .int (nI (n + 2))), (2, .ref v)] := hl
  have hB : ArrOfT s (E.g.2.2 21) .byte ∧ va_RA s (E.g.2.2 21) .byte := hGL.kb
  have hdec : ∀ z : Nat, nI z + 1 + Int32.ofInt (-1) = nI z := fun z => by rw [show Int32.ofInt (-1) = -1 by decide, Int32.add_assoc, show (1 : Int32) + -1 = 0 by decide, Int32.add_zero]
  refine lv_iload_n hx hb dJ6_getChars_ba4f3_0 rfl (lv_at hl 1 rfl) ?_
  refine lv_istore (lv' := [(5, .int (nI (n + 2))), (0, .int (nI w)), (1, .int (nI (n + 2))), (2, .ref v)]) hx hb dJ6_getChars_ba4f3_1 hl (by decide) rfl (fun ls hl => ?_)
  refine lv_iload_n hx hb dJ6_getChars_ba4f3_3 rfl (lv_at hl 1 rfl) ?_
  refine lv_if_ge (tgt := 11) hx hb dJ6_getChars_ba4f3_4 (by decide) (fun _ => ?_) (fun cx => absurd (nI_pos' (by omega)) cx)
  refine lv_iconst (v := 0) hx hb dJ6_getChars_ba4f3_11 (by decide) ?_
  refine lv_istore (lv' := [(6, .int 0), (5, .int (nI (n + 2))), (0, .int (nI w)), (1, .int (nI (n + 2))), (2, .ref v)]) hx hb dJ6_getChars_ba4f3_12 hl (by decide) rfl (fun ls hl => ?_)
  refine lv_iload hx hb dJ6_getChars_ba4f3_14 (lv_at hl 0 rfl) ?_
  refine lv_if_ne (tgt := 22) hx hb dJ6_getChars_ba4f3_16 (by decide) (fun cx => absurd (by decide) cx) (fun _ => ?_)
  refine lv_iload_n hx hb dJ6_getChars_ba4f3_19 rfl (lv_at hl 2 rfl) ?_
  refine lv_ineg hx hb dJ6_getChars_ba4f3_20 ?_
  refine lv_istore_n (lv' := [(0, .int (-(nI w))), (6, .int 0), (5, .int (nI (n + 2))), (1, .int (nI (n + 2))), (2, .ref v)]) hx hb dJ6_getChars_ba4f3_21 rfl hl (by decide) rfl (fun ls hl => ?_)
  refine lv_iload_n hx hb dJ6_getChars_ba4f3_22 rfl (lv_at hl 0 rfl) ?_
  refine lv_bipush (v := (-100)) hx hb dJ6_getChars_ba4f3_23 (by decide) ?_
  refine lv_icmp_gt (tgt := 72) hx hb dJ6_getChars_ba4f3_25 (by decide) (fun _ => ?_) (fun cx => absurd (by rw [show (-100 : Int32) = -nI 100 from rfl, sb_nlt (by decide) (by omega)]; omega) cx)
  refine lv_aload_n hx hb dJ6_getChars_ba4f3_72 rfl (lv_at hl 4 rfl) ?_
  refine lv_iinc (v := (nI (n + 1))) (lv' := [(5, .int (nI (n + 1))), (0, .int (-(nI w))), (6, .int 0), (1, .int (nI (n + 2))), (2, .ref v)]) hx hb dJ6_getChars_ba4f3_73 hl (k := 2) rfl (by rw [nI_succ]; exact hdec (n + 1)) (by decide) rfl (fun ls hl => ?_)
  refine lv_iload hx hb dJ6_getChars_ba4f3_76 (lv_at hl 0 rfl) ?_
  refine va_gets hx hb hGL.2.2.2.2.2.2.2.1.1 hw.2.2.2 hown (hts (.fieldLink RJ6 83 "java/lang/Integer" "DigitOnes" "[B") (by decide +kernel)) (fun _ h9 => h9) dJ6_getChars_ba4f3_78 ?_
  refine lv_iload_n hx hb dJ6_getChars_ba4f3_81 rfl (lv_at hl 1 rfl) ?_
  refine lv_ineg hx hb dJ6_getChars_ba4f3_82 ?_
  rw [Int32.neg_neg]
  refine va_tb hx hb hGL.2.2.2.2.2.2.2.1.2 hw.2.2.2 (v := .int (xOnes w)) (nI_in (show w < 100 by omega) (by decide)) (by rw [nI_clamp (show w < 2 ^ 31 by omega)]) dJ6_getChars_ba4f3_83 ?_
  refine x_bst hx hb hB hw q2 hq2 (nI_in (show n + 1 < m by omega) (by omega)) dJ6_getChars_ba4f3_84 (fun H locs hw => ?_)
  rw [nI_clamp (show n + 1 < 2 ^ 31 by omega), vp_nar_byte] at hw
  refine lv_iload_n hx hb dJ6_getChars_ba4f3_85 rfl (lv_at hl 1 rfl) ?_
  refine lv_bipush (v := (-9)) hx hb dJ6_getChars_ba4f3_86 (by decide) ?_
  refine lv_icmp_ge (tgt := 104) hx hb dJ6_getChars_ba4f3_88 (by decide) (fun cx => absurd cx (by rw [show (-9 : Int32) = -nI 9 from rfl, sb_nle (by decide) (by omega)]; omega)) (fun _ => ?_)
  refine lv_aload_n hx hb dJ6_getChars_ba4f3_91 rfl (lv_at hl 4 rfl) ?_
  refine lv_iinc (v := (nI n)) (lv' := [(5, .int (nI n)), (0, .int (-(nI w))), (6, .int 0), (1, .int (nI (n + 2))), (2, .ref v)]) hx hb dJ6_getChars_ba4f3_92 hl (k := 0) rfl (by rw [nI_succ]; exact hdec n) (by decide) rfl (fun ls hl => ?_)
  refine lv_iload hx hb dJ6_getChars_ba4f3_95 (lv_at hl 0 rfl) ?_
  refine va_gets hx hb hGL.2.2.2.2.2.2.2.2.1.1 hw.2.2.2 hown (hts (.fieldLink RJ6 87 "java/lang/Integer" "DigitTens" "[B") (by decide +kernel)) (fun _ h9 => h9) dJ6_getChars_ba4f3_97 ?_
  refine lv_iload_n hx hb dJ6_getChars_ba4f3_100 rfl (lv_at hl 1 rfl) ?_
  refine lv_ineg hx hb dJ6_getChars_ba4f3_101 ?_
  rw [Int32.neg_neg]
  refine va_tb hx hb hGL.2.2.2.2.2.2.2.2.1.2 hw.2.2.2 (v := .int (xTens w)) (nI_in (show w < 100 by omega) (by decide)) (by rw [nI_clamp (show w < 2 ^ 31 by omega)]) dJ6_getChars_ba4f3_102 ?_
  refine x_bst hx hb hB hw q2 (List.getElem?_set_self (List.getElem?_eq_some_iff.mp hq2).1) (nI_in (show n < m by omega) (by omega)) dJ6_getChars_ba4f3_103 (fun H locs hw => ?_)
  rw [nI_clamp (show n < 2 ^ 31 by omega), vp_nar_byte, List.set_set] at hw
  refine lv_iload hx hb dJ6_getChars_ba4f3_104 (lv_at hl 2 rfl) ?_
  refine lv_if_eq (tgt := 118) hx hb dJ6_getChars_ba4f3_106 (by decide) (fun _ => ?_) (fun cx => absurd rfl cx)
  refine lv_iload hx hb dJ6_getChars_ba4f3_118 (lv_at hl 0 rfl) ?_
  exact x_Jiret2 hx hb hr rfl hlk hw ⟨_, rfl, fun hf => sb_fitU (sb_fitU hf (pk_fb _)) (pk_fb _), fun j hj => (pk_un (by omega)).trans (pk_un (by omega)), fun z hz => by rcases (show z = 0 ∨ z = 1 by omega) with rfl | rfl; exact ⟨sbDec256 w 0, pk_us.trans (sbDec2 h1 h2).1⟩; exact ⟨sbDec256 w 1, (pk_un (by omega)).trans (pk_us.trans (sbDec2 h1 h2).2)⟩⟩ (Nat.le_of_ble_eq_true rfl) (Nat.le_of_ble_eq_true rfl) dJ6_getChars_ba4f3_120

theorem mJ6_chars {l : Launch} {E : xE} {X : va_W} (q2 : Nat) {v m n : Nat} {a : Nat → Int32} (w : Nat) (hq2 : X[q2]? = some (v, xBytes (E.g.2.2 21) m a)) (hm : m ≤ 100) (h2 : w < 100) (hn : n + sb_dg w ≤ m) (σ : xSt) : xJi l yJ6_getChars_ba4f3 wsJ6_getChars_ba4f3 rmJ6_getChars_ba4f3 E X [.int (nI w), .int (nI (n + sb_dg w)), .ref v] σ (fun X1 r => ∃ b : Nat → Int32, X1 = X.set q2 (v, xBytes (E.g.2.2 21) m b) ∧ (sb_Fit a → sb_Fit b) ∧ (∀ j, j < n → b j = a j) ∧ ∀ z, z < sb_dg w → sb_dec w z < 256 ∧ b (n + z) = sb_b (sb_dec w z)) 0 0 := by
  by_cases h : w < 10
  · rw [sbD1 h] at hn ⊢
    exact mJ6_chars1 q2 w hq2 hm h hn σ
  · rw [sbD2 (by omega) h2] at hn ⊢
    exact mJ6_chars2 q2 w hq2 hm (by omega) h2 hn σ

abbrev rmJ5_append_c97b9 : Room := { frames := 4, cells := 1, slots := 70, locals := 170 }
set_option maxRecDepth 100000 in
set_option maxHeartbeats 4000000 in
theorem mJ5_appendInt {l : Launch} {E : xE} {h v n m w : Nat} {ml : Int32} {t : Nat → Nat} {a : Nat → Int32} (hM : sbM m) (hn : n ≤ m) (hf : sb_Fit a) (hL : sb_Lat t n a) (hw100 : w < 100) (h48 : n ≤ 48) (σ : xSt) : xJr l yJ5_append_c97b9 wsJ5_append_c97b9 rmJ5_append_c97b9 E [(h, sbO v ml n), (v, xBytes (E.g.2.2 21) m a)] [.ref h, .int (nI w)] σ (fun X1 r => r = h ∧ sbP h (E.g.2.2 21) (n + sb_dg w) (sb_cat t n (sb_dec w)) X1) 1 70 := by
  intro sz
  refine xJ_of (cc := cJ5_append_c97b9) (maxL := 4) (ret := (some (.object "java/lang/AbstractStringBuilder"))) (QF := fun B => xQr2 E B (fun X1 r => r = h ∧ sbP h (E.g.2.2 21) (n + sb_dg w) (sb_cat t n (sb_dec w)) X1) σ) sz (by decide) rfl (Nat.le_of_ble_eq_true rfl) ?_
  intro p e s m9 args below meth c9 A ls ⟨hx, hb, hr, hml, hown, hts, hlk⟩ hnm hA hGL hw hl
  have hown : s.vm.findClass RJ5 = some m9.cls := hown
  have hl : lv_has ls 4 [(0, .ref h), (1, .int (nI w))] := hl
  have hB : ArrOfT s (E.g.2.2 21) .byte ∧ va_RA s (E.g.2.2 21) .byte := hGL.kb
  have hiJ4 : ∀ w ∈ wsJ40, w ∈ wsJ5_append_c97b9 := by decide +kernel
  have hd2 : sb_dg w ≤ 2 := by
    by_cases h9 : w < 10
    · rw [sbD1 h9]; omega
    · rw [sbD2 (by omega) hw100]; omega
  refine lv_aload_n hx hb dJ5_append_c97b9_0 rfl (lv_at hl 0 rfl) ?_
  refine x_getX hx hb hw 0 rfl (own := RJ5) (ref := "java/lang/AbstractStringBuilder") (C := RJ4) (T := TJ4) (N := 4) hts hiJ4 hown rfl 3 (by decide) (hts (.fieldLink RJ5 79 "java/lang/AbstractStringBuilder" "count" "I") (by decide +kernel)) (fun _ h9 => h9) rfl dJ5_append_c97b9_1 ?_
  refine lv_istore_n (lv' := [(2, .int (nI n)), (0, .ref h), (1, .int (nI w))]) hx hb dJ5_append_c97b9_4 rfl hl (by decide) rfl (fun ls hl => ?_)
  refine lv_iload_n hx hb dJ5_append_c97b9_5 rfl (lv_at hl 0 rfl) ?_
  refine lv_iload_n hx hb dJ5_append_c97b9_6 rfl (lv_at hl 2 rfl) ?_
  refine x_callLi (va_runS (As := [.int (nI w)]) (rest := [.int (nI n)]) ⟨hx, hb, hml, hown, hts⟩ (mJ6_size (E := xPlus E [(h, sbO v ml n), (v, xBytes (E.g.2.2 21) m a)]) w hw100 σ s.heap.size) (va_cwS 1 hts gJ5_append_c97b9_J6_stringSize_0f7a4 rfl rfl rfl (by decide +kernel) ⟨(Nat.le_of_ble_eq_true rfl), (Nat.le_of_ble_eq_true rfl)⟩) (x_preLS _ hw hA hGL) rfl rfl hl.1 rfl (lv_room (Nat.le_of_ble_eq_true rfl)) dJ5_append_c97b9_7 ⟨(Nat.le_of_ble_eq_true rfl), (Nat.le_of_ble_eq_true rfl)⟩) hw hA (fun H locs hw => ?_)
  refine lv_iadd hx hb dJ5_append_c97b9_10 ?_
  rw [nI_add]
  refine lv_istore_n (lv' := [(3, .int (nI (n + sb_dg w))), (2, .int (nI n)), (0, .ref h), (1, .int (nI w))]) hx hb dJ5_append_c97b9_11 rfl hl (by decide) rfl (fun ls hl => ?_)
  refine lv_aload_n hx hb dJ5_append_c97b9_12 rfl (lv_at hl 2 rfl) ?_
  refine lv_iload_n hx hb dJ5_append_c97b9_13 rfl (lv_at hl 0 rfl) ?_
  refine x_callJv (va_runU (As := [.int (nI (n + sb_dg w))]) (rest := []) ⟨hx, hb, hml, hown, hts⟩ (mJ5_ensure (E := E) (v := v) (n := n) (ml := ml) (n + sb_dg w) hM hf (by omega) (by omega) σ H.size) (va_cwU 1 hts gJ5_append_c97b9_J5_ensureCapacityInternal_d00df_u100J4 rfl rfl rfl rfl (by decide +kernel) ⟨(Nat.le_of_ble_eq_true rfl), (Nat.le_of_ble_eq_true rfl)⟩) (x_preLX _ hw hA hGL (q := 0) rfl rfl) rfl rfl hl.1 rfl (lv_room (Nat.le_of_ble_eq_true rfl)) dJ5_append_c97b9_14 ⟨(Nat.le_of_ble_eq_true rfl), (Nat.le_of_ble_eq_true rfl)⟩) hw hA (fun X1 H locs hX hw => ?_)
  obtain ⟨v1, m1, a1, rfl, hM1, hk1, hm1, hf1, ha1⟩ := hX
  have hm70 : m1 ≤ 70 := by rcases hM1 with rfl | rfl | rfl <;> decide
  refine lv_aload_n hx hb dJ5_append_c97b9_17 rfl (lv_at hl 2 rfl) ?_
  refine x_callLi (va_runU (As := []) (rest := []) ⟨hx, hb, hml, hown, hts⟩ (mJ5_isLatin1 (E := E) (X := [(h, sbO v1 ml n), (v1, xBytes (E.g.2.2 21) m1 a1)]) 0 rfl σ H.size) (va_cwU 0 hts gJ5_append_c97b9_J5_isLatin1_aae02_u83J4 rfl rfl rfl rfl (by decide +kernel) ⟨(Nat.le_of_ble_eq_true rfl), (Nat.le_of_ble_eq_true rfl)⟩) (x_preLX _ hw hA hGL (q := 0) rfl rfl) rfl rfl hl.1 rfl (lv_room (Nat.le_of_ble_eq_true rfl)) dJ5_append_c97b9_18 ⟨(Nat.le_of_ble_eq_true rfl), (Nat.le_of_ble_eq_true rfl)⟩) hw hA (fun H locs hw => ?_)
  refine lv_if_eq (tgt := 37) hx hb dJ5_append_c97b9_21 (by decide) (fun cx => absurd cx (by decide)) (fun _ => ?_)
  refine lv_iload_n hx hb dJ5_append_c97b9_24 rfl (lv_at hl 3 rfl) ?_
  refine lv_iload_n hx hb dJ5_append_c97b9_25 rfl (lv_at hl 0 rfl) ?_
  refine lv_aload_n hx hb dJ5_append_c97b9_26 rfl (lv_at hl 2 rfl) ?_
  refine x_getX hx hb hw 0 rfl (own := RJ5) (ref := "java/lang/AbstractStringBuilder") (C := RJ4) (T := TJ4) (N := 4) hts hiJ4 hown rfl 0 (by decide) (hts (.fieldLink RJ5 15 "java/lang/AbstractStringBuilder" "value" "[B") (by decide +kernel)) (fun _ h9 => h9) rfl dJ5_append_c97b9_27 ?_
  refine x_callJi (va_runS (As := [.int (nI w), .int (nI (n + sb_dg w)), .ref v1]) (rest := []) ⟨hx, hb, hml, hown, hts⟩ (mJ6_chars (E := E) (X := [(h, sbO v1 ml n), (v1, xBytes (E.g.2.2 21) m1 a1)]) 1 w rfl (by omega) hw100 hk1 σ H.size) (va_cwS 3 hts gJ5_append_c97b9_J6_getChars_ba4f3 rfl rfl rfl (by decide +kernel) ⟨(Nat.le_of_ble_eq_true rfl), (Nat.le_of_ble_eq_true rfl)⟩) (x_preLS _ hw hA hGL) rfl rfl hl.1 rfl (lv_room (Nat.le_of_ble_eq_true rfl)) dJ5_append_c97b9_30 ⟨(Nat.le_of_ble_eq_true rfl), (Nat.le_of_ble_eq_true rfl)⟩) hw hA (fun X1 rj H locs hX hw => ?_)
  obtain ⟨b1, rfl, hfb, hlo, hhi⟩ := hX
  replace hw : xw (xPlus E ((h, sbO v1 ml n) :: (v1, xBytes (E.g.2.2 21) m1 b1) :: [])) A s.heap s σ H locs := hw
  refine lv_pop hx hb dJ5_append_c97b9_33 rfl ?_
  refine lv_goto (tgt := 48) hx hb dJ5_append_c97b9_34 (by decide) ?_
  refine lv_aload_n hx hb dJ5_append_c97b9_48 rfl (lv_at hl 2 rfl) ?_
  refine lv_iload_n hx hb dJ5_append_c97b9_49 rfl (lv_at hl 0 rfl) ?_
  refine x_putX hx hb hw 0 rfl (own := RJ5) (ref := "java/lang/AbstractStringBuilder") (C := RJ4) (T := TJ4) (N := 4) hts hiJ4 tyJ4 tyJ4_ok nmJ4 hown rfl 3 (by decide) (hts (.fieldLink RJ5 79 "java/lang/AbstractStringBuilder" "count" "I") (by decide +kernel)) (fun _ h9 => h9) rfl (tyJ4_ok 3 (by decide)) rfl rfl (Nat.le_of_ble_eq_true rfl) dJ5_append_c97b9_50 (fun H locs hw => ?_)
  replace hw : xw (xPlus E ((h, .inr (15, [.ref v1, .int 0, .int ml, .int (nI (n + sb_dg w))])) :: (v1, xBytes (E.g.2.2 21) m1 b1) :: [])) A s.heap s σ H locs := hw
  refine lv_aload_n hx hb dJ5_append_c97b9_53 rfl (lv_at hl 2 rfl) ?_
  exact x_Jaret hx hb hr (Or.inl ⟨_, rfl⟩) hlk hw ⟨rfl, v1, m1, ml, _, rfl, hM1, by omega, hfb hf1, sb_latPut hL (fun j hj => by rw [hlo j hj]; exact ha1 j (by omega)) hhi⟩ (Nat.le_of_ble_eq_true rfl) (Nat.le_of_ble_eq_true rfl) dJ5_append_c97b9_54

abbrev rmJ4_append_bf812 : Room := { frames := 5, cells := 1, slots := 70, locals := 210 }
set_option maxRecDepth 100000 in
set_option maxHeartbeats 4000000 in
theorem mJ4_appendInt {l : Launch} {E : xE} {h v n m w : Nat} {ml : Int32} {t : Nat → Nat} {a : Nat → Int32} (hM : sbM m) (hn : n ≤ m) (hf : sb_Fit a) (hL : sb_Lat t n a) (hw100 : w < 100) (h48 : n ≤ 48) (σ : xSt) : xJr l yJ4_append_bf812 wsJ4_append_bf812 rmJ4_append_bf812 E [(h, sbO v ml n), (v, xBytes (E.g.2.2 21) m a)] [.ref h, .int (nI w)] σ (fun X1 r => r = h ∧ sbP h (E.g.2.2 21) (n + sb_dg w) (sb_cat t n (sb_dec w)) X1) 1 70 := by
  intro sz
  refine xJ_of (cc := cJ4_append_bf812) (maxL := 2) (ret := (some (.object "java/lang/StringBuilder"))) (QF := fun B => xQr2 E B (fun X1 r => r = h ∧ sbP h (E.g.2.2 21) (n + sb_dg w) (sb_cat t n (sb_dec w)) X1) σ) sz (by decide) rfl (Nat.le_of_ble_eq_true rfl) ?_
  intro p e s m9 args below meth c9 A ls ⟨hx, hb, hr, hml, hown, hts, hlk⟩ hnm hA hGL hw hl
  have hown : s.vm.findClass RJ4 = some m9.cls := hown
  have hl : lv_has ls 2 [(0, .ref h), (1, .int (nI w))] := hl
  have hB : ArrOfT s (E.g.2.2 21) .byte ∧ va_RA s (E.g.2.2 21) .byte := hGL.kb
  refine lv_aload_n hx hb dJ4_append_bf812_0 rfl (lv_at hl 0 rfl) ?_
  refine lv_iload_n hx hb dJ4_append_bf812_1 rfl (lv_at hl 1 rfl) ?_
  have hat := (hw.1.1 15 _ rfl).2
  refine x_callJr (va_runSU hat (As := [.int (nI w)]) (rest := []) ⟨hx, hb, hml, hown, hts⟩ (mJ5_appendInt (E := E) (h := h) (v := v) (ml := ml) hM hn hf hL hw100 h48 σ s.heap.size) (va_cwSU 1 hts gJ4_append_bf812_J5_append_c97b9_s53 rfl rfl rfl (by decide +kernel) ⟨(Nat.le_of_ble_eq_true rfl), (Nat.le_of_ble_eq_true rfl)⟩) (x_preLX _ hw hA hGL (q := 0) rfl rfl) rfl rfl hl.1 rfl (lv_room (Nat.le_of_ble_eq_true rfl)) dJ4_append_bf812_2 ⟨(Nat.le_of_ble_eq_true rfl), (Nat.le_of_ble_eq_true rfl)⟩) hw hA (fun X1 r H locs hX hw => ?_)
  refine lv_pop hx hb dJ4_append_bf812_5 rfl ?_
  refine lv_aload_n hx hb dJ4_append_bf812_6 rfl (lv_at hl 0 rfl) ?_
  exact x_Jaret hx hb hr (Or.inl ⟨_, rfl⟩) hlk hw ⟨rfl, hX.2⟩ (Nat.le_of_ble_eq_true rfl) (Nat.le_of_ble_eq_true rfl) dJ4_append_bf812_7

abbrev rmJ4_length_8abf5 : Room := { frames := 1, cells := 0, slots := 0, locals := 20 }
set_option maxRecDepth 100000 in
set_option maxHeartbeats 4000000 in
theorem mJ4_length {l : Launch} {E : xE} {X : va_W} (q : Nat) {h v n : Nat} {ml : Int32} (hq : X[q]? = some (h, sbO v ml n)) (σ : xSt) : xLi l yJ4_length_8abf5 wsJ4_length_8abf5 rmJ4_length_8abf5 (xPlus E X) [.ref h] σ (nI n) σ 0 0 := by
  refine xLi_of (cc := cJ4_length_8abf5) (maxL := 1) (ret := (some .int)) (by decide) rfl (Nat.le_of_ble_eq_true rfl) ?_
  intro p e s m9 args below meth c9 A ls ⟨hx, hb, hr, hml, hown, hts, hlk⟩ hA hGL hw hl
  have hown : s.vm.findClass RJ4 = some m9.cls := hown
  have hl : lv_has ls 1 [(0, .ref h)] := hl
  have hB : ArrOfT s (E.g.2.2 21) .byte ∧ va_RA s (E.g.2.2 21) .byte := hGL.kb
  refine lv_aload_n hx hb dJ4_length_8abf5_0 rfl (lv_at hl 0 rfl) ?_
  have hat := (hw.1.1 15 _ rfl).2
  refine x_callLi (va_runSU hat (As := []) (rest := []) ⟨hx, hb, hml, hown, hts⟩ (mJ5_length (E := E) (X := X) q hq σ s.heap.size) (va_cwSU 0 hts gJ4_length_8abf5_J5_length_8abf5_s343 rfl rfl rfl (by decide +kernel) ⟨(Nat.le_of_ble_eq_true rfl), (Nat.le_of_ble_eq_true rfl)⟩) (x_preLX _ hw hA hGL (q := q) hq rfl) rfl rfl hl.1 rfl (lv_room (Nat.le_of_ble_eq_true rfl)) dJ4_length_8abf5_1 ⟨(Nat.le_of_ble_eq_true rfl), (Nat.le_of_ble_eq_true rfl)⟩) hw hA (fun H locs hw => ?_)
  exact x_Jiret hx hb hr rfl hlk hw (Nat.le_of_ble_eq_true rfl) (Nat.le_of_ble_eq_true rfl) dJ4_length_8abf5_4
