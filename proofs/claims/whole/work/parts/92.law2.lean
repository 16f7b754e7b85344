set_option maxRecDepth 100000 in
set_option maxHeartbeats 4000000 in
theorem lawc_31 {p : Program} {l : Launch} {e : Env} {t : State} {m : MethodId} {args : Array Value} {below : List Frame} {meth : Method} {c : Code} {Q : State → Prop} {H : Heap} {locs : List Loc} {cells slots b L n : Nat} {xs : Nat → Int32} {A : Nat → Prop} {D : va_G} {aX aM : Nat → Nat} {cA cL : ClassId} {ao : Nat} {g : Nat × Nat × (Nat → Nat)} {σX σM : xSt} {fo : Nat → Int64} {ls : Array Slot} (hl0 : l.stackTraces = false) (Cx : xLC p t m args c b L n xs A g) (hw : xwW (xEX D aX aM cA g σM) ao cL A t.heap t σX fo H locs) (hl : lv_has ls 9 (xLl b (aX 0) (aM 0) ao (nI (6 * n)))) (hcs : cells + 20 ≤ 601024 ∧ slots + 120 ≤ 7293034) (o : xO) (b9 : Int32) (σX1 σM1 : xSt) (hfX : fX11_bestNumber (xs (6 * n + 1)) (xs (6 * n + 2)) (xs (6 * n + 3)) σX = some (o, σX1)) (hk : ∀ k, o = .inr k → k = 0 ∨ k = 1 ∨ k = 3) (hfM : fX12_bestNumber (xs (6 * n + 1)) (xs (6 * n + 2)) (xs (6 * n + 3)) σM = some (b9, σM1)) (hth : σM1 0 0 = xcd 1 2 9 3 o) (ha : ∀ v, o = .inl v → v = b9) (kk : ∀ (H : Heap) (locs : List Loc) (ls : Array Slot), xwW (xEX D aX aM cA g σM1) ao cL A t.heap t σX1 (xou fo o) H locs → lv_has ls 9 (xLl b (aX 0) (aM 0) ao (nI (6 * n))) → W p l e room_1 t m args below meth c H locs (cells + 20) (slots + 120) Q (F0 m 2908 ls [])) : W p l e room_1 t m args below meth c H locs cells slots Q (F0 m 1991 ls []) := by
  obtain ⟨hx, hb, hml, hown, hts, hXs, hbl, hn, hA, hbA, hG, hN⟩ := id Cx
  refine lv_aload_n hx hb dL_law_1991 rfl (lv_at hl 1 rfl) ?_
  refine x_arg Cx hw.2.2.2 (lv_at hl 0 rfl) (lv_at hl 4 rfl) (k := 1) (by decide) (kv := 1) (by decide) dL_law_1992 dL_law_1993 (fun h9 => lv_iconst (v := 1) hx hb dL_law_1995 (by decide) h9) dL_law_1996 dL_law_1997 ?_
  refine x_arg Cx hw.2.2.2 (lv_at hl 0 rfl) (lv_at hl 4 rfl) (k := 2) (by decide) (kv := 2) (by decide) dL_law_1998 dL_law_1999 (fun h9 => lv_iconst (v := 2) hx hb dL_law_2001 (by decide) h9) dL_law_2002 dL_law_2003 ?_
  refine x_arg Cx hw.2.2.2 (lv_at hl 0 rfl) (lv_at hl 4 rfl) (k := 3) (by decide) (kv := 3) (by decide) dL_law_2004 dL_law_2005 (fun h9 => lv_iconst (v := 3) hx hb dL_law_2007 (by decide) h9) dL_law_2008 dL_law_2009 ?_
  refine lv_aload_n hx hb dL_law_2010 rfl (lv_at hl 3 rfl) ?_
  refine x_wcalli (vx_runSX (hh := [(0, 12, 15, 13), (0, 12, 19, 15), (0, 12, 23, 87)]) (As := [.ref (aX 0), .int (xs (6 * n + 1)), .int (xs (6 * n + 2)), .int (xs (6 * n + 3)), .ref ao]) (rest := []) ⟨hx, hb, hml, hown, hts⟩ (mL_bestNumber hl0 (E := xEX D aX aM cA g σM) rfl ao cL (xs (6 * n + 1)) (xs (6 * n + 2)) (xs (6 * n + 3)) σX fo o σX1 hfX hk H.size) (vx_cwSW 5 hts gL_law_L_bestNumber rfl rfl rfl (by decide +kernel) ⟨Nat.le_of_ble_eq_true rfl, Nat.le_of_ble_eq_true rfl⟩) (x_preW _ hw hA hG hN) rfl rfl hl.1 rfl (lv_room (Nat.le_of_ble_eq_true rfl)) dL_law_2011 ⟨by show cells + 3 ≤ 601024; omega, by show slots + 18 ≤ 7293034; omega⟩) hw hA (fun H locs hw => ?_)
  refine lv_istore (lv' := [(5, .int (xcd 1 2 9 3 o)), (0, .ref b), (1, .ref (aX 0)), (2, .ref (aM 0)), (3, .ref ao), (4, .int (nI (6 * n)))]) hx hb dL_law_2014 hl (by decide) rfl (fun ls hl => ?_)
  refine lv_aload_n hx hb dL_law_2016 rfl (lv_at hl 3 rfl) ?_
  refine x_arg Cx hw.2.2.2 (lv_at hl 1 rfl) (lv_at hl 5 rfl) (k := 1) (by decide) (kv := 1) (by decide) dL_law_2017 dL_law_2018 (fun h9 => lv_iconst (v := 1) hx hb dL_law_2020 (by decide) h9) dL_law_2021 dL_law_2022 ?_
  refine x_arg Cx hw.2.2.2 (lv_at hl 1 rfl) (lv_at hl 5 rfl) (k := 2) (by decide) (kv := 2) (by decide) dL_law_2023 dL_law_2024 (fun h9 => lv_iconst (v := 2) hx hb dL_law_2026 (by decide) h9) dL_law_2027 dL_law_2028 ?_
  refine x_arg Cx hw.2.2.2 (lv_at hl 1 rfl) (lv_at hl 5 rfl) (k := 3) (by decide) (kv := 3) (by decide) dL_law_2029 dL_law_2030 (fun h9 => lv_iconst (v := 3) hx hb dL_law_2032 (by decide) h9) dL_law_2033 dL_law_2034 ?_
  have hwm := xwM hw
  refine x_calli (va_runV (As := [.int (xs (6 * n + 1)), .int (xs (6 * n + 2)), .int (xs (6 * n + 3))]) (rest := []) ⟨hx, hb, hml, hown, hts⟩ (mX12_bestNumber (E := xEM D aX aM cA g ao cL σX1 (xou fo o)) rfl (xs (6 * n + 1)) (xs (6 * n + 2)) (xs (6 * n + 3)) σM b9 σM1 hfM H.size) (cwV 3 hts gL_law_X12_bestNumber rfl rfl rfl (by decide +kernel) ⟨Nat.le_of_ble_eq_true rfl, Nat.le_of_ble_eq_true rfl⟩) (x_preV _ hwm hA hG (cM0 rfl) rfl) rfl rfl hl.1 rfl (lv_room (Nat.le_of_ble_eq_true rfl)) dL_law_2035 ⟨by show cells + 3 + 0 ≤ 601024; omega, by show slots + 18 + 0 ≤ 7293034; omega⟩) hwm hA (fun H locs hwm => ?_)
  have hw := xwX hw.1 hwm
  refine lv_istore (lv' := [(6, .int b9), (5, .int (xcd 1 2 9 3 o)), (0, .ref b), (1, .ref (aX 0)), (2, .ref (aM 0)), (3, .ref ao), (4, .int (nI (6 * n)))]) hx hb dL_law_2038 hl (by decide) rfl (fun ls hl => ?_)
  refine lv_aload_n hx hb dL_law_2040 rfl (lv_at hl 4 rfl) ?_
  have hwm := xwM hw
  refine x_calli (va_runV (As := []) (rest := []) ⟨hx, hb, hml, hown, hts⟩ (mX12_thrown (E := xEM D aX aM cA g ao cL σX1 (xou fo o)) rfl σM1 (σM1 0 0) σM1 (show fX12_thrown σM1 = some (σM1 0 0, σM1) from rfl) H.size) (cwV 0 hts gL_law_X12_thrown rfl rfl rfl (by decide +kernel) ⟨Nat.le_of_ble_eq_true rfl, Nat.le_of_ble_eq_true rfl⟩) (x_preV _ hwm hA hG (cM0 rfl) rfl) rfl rfl hl.1 rfl (lv_room (Nat.le_of_ble_eq_true rfl)) dL_law_2041 ⟨by show cells + 3 + 0 ≤ 601024; omega, by show slots + 18 + 0 ≤ 7293034; omega⟩) hwm hA (fun H locs hwm => ?_)
  have hw := xwX hw.1 hwm
  refine lv_iload hx hb dL_law_2044 (lv_at hl 1 rfl) ?_
  refine lv_icmp_eq (tgt := 2051) hx hb dL_law_2046 (by decide) (fun _ => ?_) (fun h9 => absurd hth h9)
  refine lv_iload hx hb dL_law_2051 (lv_at hl 1 rfl) ?_
  cases o with
  | inl v =>
    · refine lv_if_ne (tgt := 2068) hx hb dL_law_2053 (by decide) (fun h9 => absurd rfl h9) (fun _ => ?_)
      refine lv_aload_n hx hb dL_law_2056 rfl (lv_at hl 5 rfl) ?_
      refine lv_iconst (v := 0) hx hb dL_law_2057 (by decide) ?_
      refine x_wlald hx hb hw dL_law_2058 ?_
      refine lv_iload hx hb dL_law_2059 (lv_at hl 0 rfl) ?_
      refine lv_i2l hx hb dL_law_2061 rfl ?_
      refine W.lcmp hx hb dL_law_2062 ?_
      refine lv_if_eq (tgt := 2068) hx hb dL_law_2063 (by decide) (fun _ => ?_) (fun h9 => absurd ((lg_cmp_eq _ _).mpr (by rw [ha v rfl]; rfl)) h9)
      refine lv_goto (tgt := 2908) hx hb dL_law_2068 (by decide) ?_
      refine W.widen (k := cells + 20) (n := slots + 120) (by omega) (by omega) ?_
      exact kk _ _ _ hw (lv_sub hl [2, 3, 4, 5, 6] rfl)
  | inr k =>
    · refine lv_if_ne (tgt := 2068) hx hb dL_law_2053 (by decide) (fun _ => ?_) (fun h9 => absurd h9 (xcd_ne (by decide) (by decide) (by decide) (by decide)))
      refine lv_goto (tgt := 2908) hx hb dL_law_2068 (by decide) ?_
      refine W.widen (k := cells + 20) (n := slots + 120) (by omega) (by omega) ?_
      exact kk _ _ _ hw (lv_sub hl [2, 3, 4, 5, 6] rfl)

set_option maxRecDepth 100000 in
set_option maxHeartbeats 4000000 in
theorem lawc_32 {p : Program} {l : Launch} {e : Env} {t : State} {m : MethodId} {args : Array Value} {below : List Frame} {meth : Method} {c : Code} {Q : State → Prop} {H : Heap} {locs : List Loc} {cells slots b L n : Nat} {xs : Nat → Int32} {A : Nat → Prop} {D : va_G} {aX aM : Nat → Nat} {cA cL : ClassId} {ao : Nat} {g : Nat × Nat × (Nat → Nat)} {σX σM : xSt} {fo : Nat → Int64} {ls : Array Slot} (hl0 : l.stackTraces = false) (Cx : xLC p t m args c b L n xs A g) (hw : xwW (xEX D aX aM cA g σM) ao cL A t.heap t σX fo H locs) (hl : lv_has ls 9 (xLl b (aX 0) (aM 0) ao (nI (6 * n)))) (hcs : cells + 20 ≤ 601024 ∧ slots + 120 ≤ 7293034) (o : xO) (b9 : Int32) (σX1 σM1 : xSt) (hfX : fX11_loss (xs (6 * n + 1)) (xs (6 * n + 2)) (xs (6 * n + 3)) (xs (6 * n + 4)) σX = some (o, σX1)) (hk : ∀ k, o = .inr k → k = 0 ∨ k = 1) (hfM : fX12_loss (xs (6 * n + 1)) (xs (6 * n + 2)) (xs (6 * n + 3)) (xs (6 * n + 4)) σM = some (b9, σM1)) (hth : σM1 0 0 = xcd 1 2 9 9 o) (ha : ∀ v, o = .inl v → v = b9) (kk : ∀ (H : Heap) (locs : List Loc) (ls : Array Slot), xwW (xEX D aX aM cA g σM1) ao cL A t.heap t σX1 (xou fo o) H locs → lv_has ls 9 (xLl b (aX 0) (aM 0) ao (nI (6 * n))) → W p l e room_1 t m args below meth c H locs (cells + 20) (slots + 120) Q (F0 m 2908 ls [])) : W p l e room_1 t m args below meth c H locs cells slots Q (F0 m 2071 ls []) := by
  obtain ⟨hx, hb, hml, hown, hts, hXs, hbl, hn, hA, hbA, hG, hN⟩ := id Cx
  refine lv_aload_n hx hb dL_law_2071 rfl (lv_at hl 1 rfl) ?_
  refine x_arg Cx hw.2.2.2 (lv_at hl 0 rfl) (lv_at hl 4 rfl) (k := 1) (by decide) (kv := 1) (by decide) dL_law_2072 dL_law_2073 (fun h9 => lv_iconst (v := 1) hx hb dL_law_2075 (by decide) h9) dL_law_2076 dL_law_2077 ?_
  refine x_arg Cx hw.2.2.2 (lv_at hl 0 rfl) (lv_at hl 4 rfl) (k := 2) (by decide) (kv := 2) (by decide) dL_law_2078 dL_law_2079 (fun h9 => lv_iconst (v := 2) hx hb dL_law_2081 (by decide) h9) dL_law_2082 dL_law_2083 ?_
  refine x_arg Cx hw.2.2.2 (lv_at hl 0 rfl) (lv_at hl 4 rfl) (k := 3) (by decide) (kv := 3) (by decide) dL_law_2084 dL_law_2085 (fun h9 => lv_iconst (v := 3) hx hb dL_law_2087 (by decide) h9) dL_law_2088 dL_law_2089 ?_
  refine x_arg Cx hw.2.2.2 (lv_at hl 0 rfl) (lv_at hl 4 rfl) (k := 4) (by decide) (kv := 4) (by decide) dL_law_2090 dL_law_2091 (fun h9 => lv_iconst (v := 4) hx hb dL_law_2093 (by decide) h9) dL_law_2094 dL_law_2095 ?_
  refine lv_aload_n hx hb dL_law_2096 rfl (lv_at hl 3 rfl) ?_
  refine x_wcalli (vx_runSX (hh := [(0, 14, 17, 13), (0, 14, 21, 15)]) (As := [.ref (aX 0), .int (xs (6 * n + 1)), .int (xs (6 * n + 2)), .int (xs (6 * n + 3)), .int (xs (6 * n + 4)), .ref ao]) (rest := []) ⟨hx, hb, hml, hown, hts⟩ (mL_loss hl0 (E := xEX D aX aM cA g σM) rfl ao cL (xs (6 * n + 1)) (xs (6 * n + 2)) (xs (6 * n + 3)) (xs (6 * n + 4)) σX fo o σX1 hfX hk H.size) (vx_cwSW 6 hts gL_law_L_loss rfl rfl rfl (by decide +kernel) ⟨Nat.le_of_ble_eq_true rfl, Nat.le_of_ble_eq_true rfl⟩) (x_preW _ hw hA hG hN) rfl rfl hl.1 rfl (lv_room (Nat.le_of_ble_eq_true rfl)) dL_law_2097 ⟨by show cells + 2 ≤ 601024; omega, by show slots + 12 ≤ 7293034; omega⟩) hw hA (fun H locs hw => ?_)
  refine lv_istore (lv' := [(5, .int (xcd 1 2 9 9 o)), (0, .ref b), (1, .ref (aX 0)), (2, .ref (aM 0)), (3, .ref ao), (4, .int (nI (6 * n)))]) hx hb dL_law_2100 hl (by decide) rfl (fun ls hl => ?_)
  refine lv_aload_n hx hb dL_law_2102 rfl (lv_at hl 3 rfl) ?_
  refine x_arg Cx hw.2.2.2 (lv_at hl 1 rfl) (lv_at hl 5 rfl) (k := 1) (by decide) (kv := 1) (by decide) dL_law_2103 dL_law_2104 (fun h9 => lv_iconst (v := 1) hx hb dL_law_2106 (by decide) h9) dL_law_2107 dL_law_2108 ?_
  refine x_arg Cx hw.2.2.2 (lv_at hl 1 rfl) (lv_at hl 5 rfl) (k := 2) (by decide) (kv := 2) (by decide) dL_law_2109 dL_law_2110 (fun h9 => lv_iconst (v := 2) hx hb dL_law_2112 (by decide) h9) dL_law_2113 dL_law_2114 ?_
  refine x_arg Cx hw.2.2.2 (lv_at hl 1 rfl) (lv_at hl 5 rfl) (k := 3) (by decide) (kv := 3) (by decide) dL_law_2115 dL_law_2116 (fun h9 => lv_iconst (v := 3) hx hb dL_law_2118 (by decide) h9) dL_law_2119 dL_law_2120 ?_
  refine x_arg Cx hw.2.2.2 (lv_at hl 1 rfl) (lv_at hl 5 rfl) (k := 4) (by decide) (kv := 4) (by decide) dL_law_2121 dL_law_2122 (fun h9 => lv_iconst (v := 4) hx hb dL_law_2124 (by decide) h9) dL_law_2125 dL_law_2126 ?_
  have hwm := xwM hw
  refine x_calli (va_runV (As := [.int (xs (6 * n + 1)), .int (xs (6 * n + 2)), .int (xs (6 * n + 3)), .int (xs (6 * n + 4))]) (rest := []) ⟨hx, hb, hml, hown, hts⟩ (mX12_loss (E := xEM D aX aM cA g ao cL σX1 (xou fo o)) rfl (xs (6 * n + 1)) (xs (6 * n + 2)) (xs (6 * n + 3)) (xs (6 * n + 4)) σM b9 σM1 hfM H.size) (cwV 4 hts gL_law_X12_loss rfl rfl rfl (by decide +kernel) ⟨Nat.le_of_ble_eq_true rfl, Nat.le_of_ble_eq_true rfl⟩) (x_preV _ hwm hA hG (cM0 rfl) rfl) rfl rfl hl.1 rfl (lv_room (Nat.le_of_ble_eq_true rfl)) dL_law_2127 ⟨by show cells + 2 + 0 ≤ 601024; omega, by show slots + 12 + 0 ≤ 7293034; omega⟩) hwm hA (fun H locs hwm => ?_)
  have hw := xwX hw.1 hwm
  refine lv_istore (lv' := [(6, .int b9), (5, .int (xcd 1 2 9 9 o)), (0, .ref b), (1, .ref (aX 0)), (2, .ref (aM 0)), (3, .ref ao), (4, .int (nI (6 * n)))]) hx hb dL_law_2130 hl (by decide) rfl (fun ls hl => ?_)
  refine lv_aload_n hx hb dL_law_2132 rfl (lv_at hl 4 rfl) ?_
  have hwm := xwM hw
  refine x_calli (va_runV (As := []) (rest := []) ⟨hx, hb, hml, hown, hts⟩ (mX12_thrown (E := xEM D aX aM cA g ao cL σX1 (xou fo o)) rfl σM1 (σM1 0 0) σM1 (show fX12_thrown σM1 = some (σM1 0 0, σM1) from rfl) H.size) (cwV 0 hts gL_law_X12_thrown rfl rfl rfl (by decide +kernel) ⟨Nat.le_of_ble_eq_true rfl, Nat.le_of_ble_eq_true rfl⟩) (x_preV _ hwm hA hG (cM0 rfl) rfl) rfl rfl hl.1 rfl (lv_room (Nat.le_of_ble_eq_true rfl)) dL_law_2133 ⟨by show cells + 2 + 0 ≤ 601024; omega, by show slots + 12 + 0 ≤ 7293034; omega⟩) hwm hA (fun H locs hwm => ?_)
  have hw := xwX hw.1 hwm
  refine lv_iload hx hb dL_law_2136 (lv_at hl 1 rfl) ?_
  refine lv_icmp_eq (tgt := 2143) hx hb dL_law_2138 (by decide) (fun _ => ?_) (fun h9 => absurd hth h9)
  refine lv_iload hx hb dL_law_2143 (lv_at hl 1 rfl) ?_
  cases o with
  | inl v =>
    · refine lv_if_ne (tgt := 2160) hx hb dL_law_2145 (by decide) (fun h9 => absurd rfl h9) (fun _ => ?_)
      refine lv_aload_n hx hb dL_law_2148 rfl (lv_at hl 5 rfl) ?_
      refine lv_iconst (v := 0) hx hb dL_law_2149 (by decide) ?_
      refine x_wlald hx hb hw dL_law_2150 ?_
      refine lv_iload hx hb dL_law_2151 (lv_at hl 0 rfl) ?_
      refine lv_i2l hx hb dL_law_2153 rfl ?_
      refine W.lcmp hx hb dL_law_2154 ?_
      refine lv_if_eq (tgt := 2160) hx hb dL_law_2155 (by decide) (fun _ => ?_) (fun h9 => absurd ((lg_cmp_eq _ _).mpr (by rw [ha v rfl]; rfl)) h9)
      refine lv_goto (tgt := 2908) hx hb dL_law_2160 (by decide) ?_
      refine W.widen (k := cells + 20) (n := slots + 120) (by omega) (by omega) ?_
      exact kk _ _ _ hw (lv_sub hl [2, 3, 4, 5, 6] rfl)
  | inr k =>
    · refine lv_if_ne (tgt := 2160) hx hb dL_law_2145 (by decide) (fun _ => ?_) (fun h9 => absurd h9 (xcd_ne (by decide) (by decide) (by decide) (by decide)))
      refine lv_goto (tgt := 2908) hx hb dL_law_2160 (by decide) ?_
      refine W.widen (k := cells + 20) (n := slots + 120) (by omega) (by omega) ?_
      exact kk _ _ _ hw (lv_sub hl [2, 3, 4, 5, 6] rfl)

set_option maxRecDepth 100000 in
set_option maxHeartbeats 4000000 in
theorem lawc_33 {p : Program} {l : Launch} {e : Env} {t : State} {m : MethodId} {args : Array Value} {below : List Frame} {meth : Method} {c : Code} {Q : State → Prop} {H : Heap} {locs : List Loc} {cells slots b L n : Nat} {xs : Nat → Int32} {A : Nat → Prop} {D : va_G} {aX aM : Nat → Nat} {cA cL : ClassId} {ao : Nat} {g : Nat × Nat × (Nat → Nat)} {σX σM : xSt} {fo : Nat → Int64} {ls : Array Slot} (hl0 : l.stackTraces = false) (Cx : xLC p t m args c b L n xs A g) (hw : xwW (xEX D aX aM cA g σM) ao cL A t.heap t σX fo H locs) (hl : lv_has ls 9 (xLl b (aX 0) (aM 0) ao (nI (6 * n)))) (hcs : cells + 20 ≤ 601024 ∧ slots + 120 ≤ 7293034) (o : xO) (b9 : Int32) (σX1 σM1 : xSt) (hfX : fX11_addShop (xs (6 * n + 1)) (xs (6 * n + 2)) (xs (6 * n + 3)) (xs (6 * n + 4)) (xs (6 * n + 5)) σX = some (o, σX1)) (hk : ∀ k, o = .inr k → k = 1 ∨ k = 2) (hfM : fX12_addShop (xs (6 * n + 1)) (xs (6 * n + 2)) (xs (6 * n + 3)) (xs (6 * n + 4)) (xs (6 * n + 5)) σM = some (b9, σM1)) (hth : σM1 0 0 = xcd 9 1 2 9 o) (ha : ∀ v, o = .inl v → v = b9) (kk : ∀ (H : Heap) (locs : List Loc) (ls : Array Slot), xwW (xEX D aX aM cA g σM1) ao cL A t.heap t σX1 (xou fo o) H locs → lv_has ls 9 (xLl b (aX 0) (aM 0) ao (nI (6 * n))) → W p l e room_1 t m args below meth c H locs (cells + 20) (slots + 120) Q (F0 m 2908 ls [])) : W p l e room_1 t m args below meth c H locs cells slots Q (F0 m 2163 ls []) := by
  obtain ⟨hx, hb, hml, hown, hts, hXs, hbl, hn, hA, hbA, hG, hN⟩ := id Cx
  refine lv_aload_n hx hb dL_law_2163 rfl (lv_at hl 1 rfl) ?_
  refine x_arg Cx hw.2.2.2 (lv_at hl 0 rfl) (lv_at hl 4 rfl) (k := 1) (by decide) (kv := 1) (by decide) dL_law_2164 dL_law_2165 (fun h9 => lv_iconst (v := 1) hx hb dL_law_2167 (by decide) h9) dL_law_2168 dL_law_2169 ?_
  refine x_arg Cx hw.2.2.2 (lv_at hl 0 rfl) (lv_at hl 4 rfl) (k := 2) (by decide) (kv := 2) (by decide) dL_law_2170 dL_law_2171 (fun h9 => lv_iconst (v := 2) hx hb dL_law_2173 (by decide) h9) dL_law_2174 dL_law_2175 ?_
  refine x_arg Cx hw.2.2.2 (lv_at hl 0 rfl) (lv_at hl 4 rfl) (k := 3) (by decide) (kv := 3) (by decide) dL_law_2176 dL_law_2177 (fun h9 => lv_iconst (v := 3) hx hb dL_law_2179 (by decide) h9) dL_law_2180 dL_law_2181 ?_
  refine x_arg Cx hw.2.2.2 (lv_at hl 0 rfl) (lv_at hl 4 rfl) (k := 4) (by decide) (kv := 4) (by decide) dL_law_2182 dL_law_2183 (fun h9 => lv_iconst (v := 4) hx hb dL_law_2185 (by decide) h9) dL_law_2186 dL_law_2187 ?_
  refine x_arg Cx hw.2.2.2 (lv_at hl 0 rfl) (lv_at hl 4 rfl) (k := 5) (by decide) (kv := 5) (by decide) dL_law_2188 dL_law_2189 (fun h9 => lv_iconst (v := 5) hx hb dL_law_2191 (by decide) h9) dL_law_2192 dL_law_2193 ?_
  refine lv_aload_n hx hb dL_law_2194 rfl (lv_at hl 3 rfl) ?_
  refine x_wcalli (vx_runSX (hh := [(0, 16, 19, 15), (0, 16, 23, 17)]) (As := [.ref (aX 0), .int (xs (6 * n + 1)), .int (xs (6 * n + 2)), .int (xs (6 * n + 3)), .int (xs (6 * n + 4)), .int (xs (6 * n + 5)), .ref ao]) (rest := []) ⟨hx, hb, hml, hown, hts⟩ (mL_addShop hl0 (E := xEX D aX aM cA g σM) rfl ao cL (xs (6 * n + 1)) (xs (6 * n + 2)) (xs (6 * n + 3)) (xs (6 * n + 4)) (xs (6 * n + 5)) σX fo o σX1 hfX hk H.size) (vx_cwSW 7 hts gL_law_L_addShop rfl rfl rfl (by decide +kernel) ⟨Nat.le_of_ble_eq_true rfl, Nat.le_of_ble_eq_true rfl⟩) (x_preW _ hw hA hG hN) rfl rfl hl.1 rfl (lv_room (Nat.le_of_ble_eq_true rfl)) dL_law_2195 ⟨by show cells + 2 ≤ 601024; omega, by show slots + 12 ≤ 7293034; omega⟩) hw hA (fun H locs hw => ?_)
  refine lv_istore (lv' := [(5, .int (xcd 9 1 2 9 o)), (0, .ref b), (1, .ref (aX 0)), (2, .ref (aM 0)), (3, .ref ao), (4, .int (nI (6 * n)))]) hx hb dL_law_2198 hl (by decide) rfl (fun ls hl => ?_)
  refine lv_aload_n hx hb dL_law_2200 rfl (lv_at hl 3 rfl) ?_
  refine x_arg Cx hw.2.2.2 (lv_at hl 1 rfl) (lv_at hl 5 rfl) (k := 1) (by decide) (kv := 1) (by decide) dL_law_2201 dL_law_2202 (fun h9 => lv_iconst (v := 1) hx hb dL_law_2204 (by decide) h9) dL_law_2205 dL_law_2206 ?_
  refine x_arg Cx hw.2.2.2 (lv_at hl 1 rfl) (lv_at hl 5 rfl) (k := 2) (by decide) (kv := 2) (by decide) dL_law_2207 dL_law_2208 (fun h9 => lv_iconst (v := 2) hx hb dL_law_2210 (by decide) h9) dL_law_2211 dL_law_2212 ?_
  refine x_arg Cx hw.2.2.2 (lv_at hl 1 rfl) (lv_at hl 5 rfl) (k := 3) (by decide) (kv := 3) (by decide) dL_law_2213 dL_law_2214 (fun h9 => lv_iconst (v := 3) hx hb dL_law_2216 (by decide) h9) dL_law_2217 dL_law_2218 ?_
  refine x_arg Cx hw.2.2.2 (lv_at hl 1 rfl) (lv_at hl 5 rfl) (k := 4) (by decide) (kv := 4) (by decide) dL_law_2219 dL_law_2220 (fun h9 => lv_iconst (v := 4) hx hb dL_law_2222 (by decide) h9) dL_law_2223 dL_law_2224 ?_
  refine x_arg Cx hw.2.2.2 (lv_at hl 1 rfl) (lv_at hl 5 rfl) (k := 5) (by decide) (kv := 5) (by decide) dL_law_2225 dL_law_2226 (fun h9 => lv_iconst (v := 5) hx hb dL_law_2228 (by decide) h9) dL_law_2229 dL_law_2230 ?_
  have hwm := xwM hw
  refine x_calli (va_runV (As := [.int (xs (6 * n + 1)), .int (xs (6 * n + 2)), .int (xs (6 * n + 3)), .int (xs (6 * n + 4)), .int (xs (6 * n + 5))]) (rest := []) ⟨hx, hb, hml, hown, hts⟩ (mX12_addShop (E := xEM D aX aM cA g ao cL σX1 (xou fo o)) rfl (xs (6 * n + 1)) (xs (6 * n + 2)) (xs (6 * n + 3)) (xs (6 * n + 4)) (xs (6 * n + 5)) σM b9 σM1 hfM H.size) (cwV 5 hts gL_law_X12_addShop rfl rfl rfl (by decide +kernel) ⟨Nat.le_of_ble_eq_true rfl, Nat.le_of_ble_eq_true rfl⟩) (x_preV _ hwm hA hG (cM0 rfl) rfl) rfl rfl hl.1 rfl (lv_room (Nat.le_of_ble_eq_true rfl)) dL_law_2231 ⟨by show cells + 2 + 0 ≤ 601024; omega, by show slots + 12 + 0 ≤ 7293034; omega⟩) hwm hA (fun H locs hwm => ?_)
  have hw := xwX hw.1 hwm
  refine lv_istore (lv' := [(6, .int b9), (5, .int (xcd 9 1 2 9 o)), (0, .ref b), (1, .ref (aX 0)), (2, .ref (aM 0)), (3, .ref ao), (4, .int (nI (6 * n)))]) hx hb dL_law_2234 hl (by decide) rfl (fun ls hl => ?_)
  refine lv_aload_n hx hb dL_law_2236 rfl (lv_at hl 4 rfl) ?_
  have hwm := xwM hw
  refine x_calli (va_runV (As := []) (rest := []) ⟨hx, hb, hml, hown, hts⟩ (mX12_thrown (E := xEM D aX aM cA g ao cL σX1 (xou fo o)) rfl σM1 (σM1 0 0) σM1 (show fX12_thrown σM1 = some (σM1 0 0, σM1) from rfl) H.size) (cwV 0 hts gL_law_X12_thrown rfl rfl rfl (by decide +kernel) ⟨Nat.le_of_ble_eq_true rfl, Nat.le_of_ble_eq_true rfl⟩) (x_preV _ hwm hA hG (cM0 rfl) rfl) rfl rfl hl.1 rfl (lv_room (Nat.le_of_ble_eq_true rfl)) dL_law_2237 ⟨by show cells + 2 + 0 ≤ 601024; omega, by show slots + 12 + 0 ≤ 7293034; omega⟩) hwm hA (fun H locs hwm => ?_)
  have hw := xwX hw.1 hwm
  refine lv_iload hx hb dL_law_2240 (lv_at hl 1 rfl) ?_
  refine lv_icmp_eq (tgt := 2247) hx hb dL_law_2242 (by decide) (fun _ => ?_) (fun h9 => absurd hth h9)
  refine lv_iload hx hb dL_law_2247 (lv_at hl 1 rfl) ?_
  cases o with
  | inl v =>
    · refine lv_if_ne (tgt := 2264) hx hb dL_law_2249 (by decide) (fun h9 => absurd rfl h9) (fun _ => ?_)
      refine lv_aload_n hx hb dL_law_2252 rfl (lv_at hl 5 rfl) ?_
      refine lv_iconst (v := 0) hx hb dL_law_2253 (by decide) ?_
      refine x_wlald hx hb hw dL_law_2254 ?_
      refine lv_iload hx hb dL_law_2255 (lv_at hl 0 rfl) ?_
      refine lv_i2l hx hb dL_law_2257 rfl ?_
      refine W.lcmp hx hb dL_law_2258 ?_
      refine lv_if_eq (tgt := 2264) hx hb dL_law_2259 (by decide) (fun _ => ?_) (fun h9 => absurd ((lg_cmp_eq _ _).mpr (by rw [ha v rfl]; rfl)) h9)
      refine lv_goto (tgt := 2908) hx hb dL_law_2264 (by decide) ?_
      refine W.widen (k := cells + 20) (n := slots + 120) (by omega) (by omega) ?_
      exact kk _ _ _ hw (lv_sub hl [2, 3, 4, 5, 6] rfl)
  | inr k =>
    · refine lv_if_ne (tgt := 2264) hx hb dL_law_2249 (by decide) (fun _ => ?_) (fun h9 => absurd h9 (xcd_ne (by decide) (by decide) (by decide) (by decide)))
      refine lv_goto (tgt := 2908) hx hb dL_law_2264 (by decide) ?_
      refine W.widen (k := cells + 20) (n := slots + 120) (by omega) (by omega) ?_
      exact kk _ _ _ hw (lv_sub hl [2, 3, 4, 5, 6] rfl)

set_option maxRecDepth 100000 in
set_option maxHeartbeats 4000000 in
theorem lawc_34 {p : Program} {l : Launch} {e : Env} {t : State} {m : MethodId} {args : Array Value} {below : List Frame} {meth : Method} {c : Code} {Q : State → Prop} {H : Heap} {locs : List Loc} {cells slots b L n : Nat} {xs : Nat → Int32} {A : Nat → Prop} {D : va_G} {aX aM : Nat → Nat} {cA cL : ClassId} {ao : Nat} {g : Nat × Nat × (Nat → Nat)} {σX σM : xSt} {fo : Nat → Int64} {ls : Array Slot} (hl0 : l.stackTraces = false) (Cx : xLC p t m args c b L n xs A g) (hw : xwW (xEX D aX aM cA g σM) ao cL A t.heap t σX fo H locs) (hl : lv_has ls 9 (xLl b (aX 0) (aM 0) ao (nI (6 * n)))) (hcs : cells + 20 ≤ 601024 ∧ slots + 120 ≤ 7293034) (o : xO) (b9 : Int32) (σX1 σM1 : xSt) (hfX : fX11_comesBack (xs (6 * n + 1)) σX = some (o, σX1)) (hk : ∀ k, o = .inr k → k = 1 ∨ k = 3) (hfM : fX12_comesBack (xs (6 * n + 1)) σM = some (b9, σM1)) (hth : σM1 0 0 = xcd 9 1 9 2 o) (ha : ∀ v, o = .inl v → v = b9) (kk : ∀ (H : Heap) (locs : List Loc) (ls : Array Slot), xwW (xEX D aX aM cA g σM1) ao cL A t.heap t σX1 (xou fo o) H locs → lv_has ls 9 (xLl b (aX 0) (aM 0) ao (nI (6 * n))) → W p l e room_1 t m args below meth c H locs (cells + 20) (slots + 120) Q (F0 m 2908 ls [])) : W p l e room_1 t m args below meth c H locs cells slots Q (F0 m 2267 ls []) := by
  obtain ⟨hx, hb, hml, hown, hts, hXs, hbl, hn, hA, hbA, hG, hN⟩ := id Cx
  refine lv_aload_n hx hb dL_law_2267 rfl (lv_at hl 1 rfl) ?_
  refine x_arg Cx hw.2.2.2 (lv_at hl 0 rfl) (lv_at hl 4 rfl) (k := 1) (by decide) (kv := 1) (by decide) dL_law_2268 dL_law_2269 (fun h9 => lv_iconst (v := 1) hx hb dL_law_2271 (by decide) h9) dL_law_2272 dL_law_2273 ?_
  refine lv_aload_n hx hb dL_law_2274 rfl (lv_at hl 3 rfl) ?_
  refine x_wcalli (vx_runSX (hh := [(0, 9, 12, 15), (0, 9, 15, 87)]) (As := [.ref (aX 0), .int (xs (6 * n + 1)), .ref ao]) (rest := []) ⟨hx, hb, hml, hown, hts⟩ (mL_comesBack hl0 (E := xEX D aX aM cA g σM) rfl ao cL (xs (6 * n + 1)) σX fo o σX1 hfX hk H.size) (vx_cwSW 3 hts gL_law_L_comesBack rfl rfl rfl (by decide +kernel) ⟨Nat.le_of_ble_eq_true rfl, Nat.le_of_ble_eq_true rfl⟩) (x_preW _ hw hA hG hN) rfl rfl hl.1 rfl (lv_room (Nat.le_of_ble_eq_true rfl)) dL_law_2275 ⟨by show cells + 2 ≤ 601024; omega, by show slots + 12 ≤ 7293034; omega⟩) hw hA (fun H locs hw => ?_)
  refine lv_istore (lv' := [(5, .int (xcd 9 1 9 2 o)), (0, .ref b), (1, .ref (aX 0)), (2, .ref (aM 0)), (3, .ref ao), (4, .int (nI (6 * n)))]) hx hb dL_law_2278 hl (by decide) rfl (fun ls hl => ?_)
  refine lv_aload_n hx hb dL_law_2280 rfl (lv_at hl 3 rfl) ?_
  refine x_arg Cx hw.2.2.2 (lv_at hl 1 rfl) (lv_at hl 5 rfl) (k := 1) (by decide) (kv := 1) (by decide) dL_law_2281 dL_law_2282 (fun h9 => lv_iconst (v := 1) hx hb dL_law_2284 (by decide) h9) dL_law_2285 dL_law_2286 ?_
  have hwm := xwM hw
  refine x_calli (va_runV (As := [.int (xs (6 * n + 1))]) (rest := []) ⟨hx, hb, hml, hown, hts⟩ (mX12_comesBack (E := xEM D aX aM cA g ao cL σX1 (xou fo o)) rfl (xs (6 * n + 1)) σM b9 σM1 hfM H.size) (cwV 1 hts gL_law_X12_comesBack rfl rfl rfl (by decide +kernel) ⟨Nat.le_of_ble_eq_true rfl, Nat.le_of_ble_eq_true rfl⟩) (x_preV _ hwm hA hG (cM0 rfl) rfl) rfl rfl hl.1 rfl (lv_room (Nat.le_of_ble_eq_true rfl)) dL_law_2287 ⟨by show cells + 2 + 0 ≤ 601024; omega, by show slots + 12 + 0 ≤ 7293034; omega⟩) hwm hA (fun H locs hwm => ?_)
  have hw := xwX hw.1 hwm
  refine lv_istore (lv' := [(6, .int b9), (5, .int (xcd 9 1 9 2 o)), (0, .ref b), (1, .ref (aX 0)), (2, .ref (aM 0)), (3, .ref ao), (4, .int (nI (6 * n)))]) hx hb dL_law_2290 hl (by decide) rfl (fun ls hl => ?_)
  refine lv_aload_n hx hb dL_law_2292 rfl (lv_at hl 4 rfl) ?_
  have hwm := xwM hw
  refine x_calli (va_runV (As := []) (rest := []) ⟨hx, hb, hml, hown, hts⟩ (mX12_thrown (E := xEM D aX aM cA g ao cL σX1 (xou fo o)) rfl σM1 (σM1 0 0) σM1 (show fX12_thrown σM1 = some (σM1 0 0, σM1) from rfl) H.size) (cwV 0 hts gL_law_X12_thrown rfl rfl rfl (by decide +kernel) ⟨Nat.le_of_ble_eq_true rfl, Nat.le_of_ble_eq_true rfl⟩) (x_preV _ hwm hA hG (cM0 rfl) rfl) rfl rfl hl.1 rfl (lv_room (Nat.le_of_ble_eq_true rfl)) dL_law_2293 ⟨by show cells + 2 + 0 ≤ 601024; omega, by show slots + 12 + 0 ≤ 7293034; omega⟩) hwm hA (fun H locs hwm => ?_)
  have hw := xwX hw.1 hwm
  refine lv_iload hx hb dL_law_2296 (lv_at hl 1 rfl) ?_
  refine lv_icmp_eq (tgt := 2303) hx hb dL_law_2298 (by decide) (fun _ => ?_) (fun h9 => absurd hth h9)
  refine lv_iload hx hb dL_law_2303 (lv_at hl 1 rfl) ?_
  cases o with
  | inl v =>
    · refine lv_if_ne (tgt := 2320) hx hb dL_law_2305 (by decide) (fun h9 => absurd rfl h9) (fun _ => ?_)
      refine lv_aload_n hx hb dL_law_2308 rfl (lv_at hl 5 rfl) ?_
      refine lv_iconst (v := 0) hx hb dL_law_2309 (by decide) ?_
      refine x_wlald hx hb hw dL_law_2310 ?_
      refine lv_iload hx hb dL_law_2311 (lv_at hl 0 rfl) ?_
      refine lv_i2l hx hb dL_law_2313 rfl ?_
      refine W.lcmp hx hb dL_law_2314 ?_
      refine lv_if_eq (tgt := 2320) hx hb dL_law_2315 (by decide) (fun _ => ?_) (fun h9 => absurd ((lg_cmp_eq _ _).mpr (by rw [ha v rfl]; rfl)) h9)
      refine lv_goto (tgt := 2908) hx hb dL_law_2320 (by decide) ?_
      refine W.widen (k := cells + 20) (n := slots + 120) (by omega) (by omega) ?_
      exact kk _ _ _ hw (lv_sub hl [2, 3, 4, 5, 6] rfl)
  | inr k =>
    · refine lv_if_ne (tgt := 2320) hx hb dL_law_2305 (by decide) (fun _ => ?_) (fun h9 => absurd h9 (xcd_ne (by decide) (by decide) (by decide) (by decide)))
      refine lv_goto (tgt := 2908) hx hb dL_law_2320 (by decide) ?_
      refine W.widen (k := cells + 20) (n := slots + 120) (by omega) (by omega) ?_
      exact kk _ _ _ hw (lv_sub hl [2, 3, 4, 5, 6] rfl)

set_option maxRecDepth 100000 in
set_option maxHeartbeats 4000000 in
theorem lawc_35 {p : Program} {l : Launch} {e : Env} {t : State} {m : MethodId} {args : Array Value} {below : List Frame} {meth : Method} {c : Code} {Q : State → Prop} {H : Heap} {locs : List Loc} {cells slots b L n : Nat} {xs : Nat → Int32} {A : Nat → Prop} {D : va_G} {aX aM : Nat → Nat} {cA cL : ClassId} {ao : Nat} {g : Nat × Nat × (Nat → Nat)} {σX σM : xSt} {fo : Nat → Int64} {ls : Array Slot} (hl0 : l.stackTraces = false) (Cx : xLC p t m args c b L n xs A g) (hw : xwW (xEX D aX aM cA g σM) ao cL A t.heap t σX fo H locs) (hl : lv_has ls 9 (xLl b (aX 0) (aM 0) ao (nI (6 * n)))) (hcs : cells + 20 ≤ 601024 ∧ slots + 120 ≤ 7293034) (o : xO) (b9 : Int32) (σX1 σM1 : xSt) (hfX : fX11_shopOf (xs (6 * n + 1)) (xs (6 * n + 2)) σX = some (o, σX1)) (hk : ∀ k, o = .inr k → k = 0 ∨ k = 1 ∨ k = 3) (hfM : fX12_shopOf (xs (6 * n + 1)) (xs (6 * n + 2)) σM = some (b9, σM1)) (hth : σM1 0 0 = xcd 1 2 9 3 o) (ha : ∀ v, o = .inl v → v = b9) (kk : ∀ (H : Heap) (locs : List Loc) (ls : Array Slot), xwW (xEX D aX aM cA g σM1) ao cL A t.heap t σX1 (xou fo o) H locs → lv_has ls 9 (xLl b (aX 0) (aM 0) ao (nI (6 * n))) → W p l e room_1 t m args below meth c H locs (cells + 20) (slots + 120) Q (F0 m 2908 ls [])) : W p l e room_1 t m args below meth c H locs cells slots Q (F0 m 2323 ls []) := by
  obtain ⟨hx, hb, hml, hown, hts, hXs, hbl, hn, hA, hbA, hG, hN⟩ := id Cx
  refine lv_aload_n hx hb dL_law_2323 rfl (lv_at hl 1 rfl) ?_
  refine x_arg Cx hw.2.2.2 (lv_at hl 0 rfl) (lv_at hl 4 rfl) (k := 1) (by decide) (kv := 1) (by decide) dL_law_2324 dL_law_2325 (fun h9 => lv_iconst (v := 1) hx hb dL_law_2327 (by decide) h9) dL_law_2328 dL_law_2329 ?_
  refine x_arg Cx hw.2.2.2 (lv_at hl 0 rfl) (lv_at hl 4 rfl) (k := 2) (by decide) (kv := 2) (by decide) dL_law_2330 dL_law_2331 (fun h9 => lv_iconst (v := 2) hx hb dL_law_2333 (by decide) h9) dL_law_2334 dL_law_2335 ?_
  refine lv_aload_n hx hb dL_law_2336 rfl (lv_at hl 3 rfl) ?_
  refine x_wcalli (vx_runSX (hh := [(0, 10, 13, 13), (0, 10, 17, 15), (0, 10, 21, 87)]) (As := [.ref (aX 0), .int (xs (6 * n + 1)), .int (xs (6 * n + 2)), .ref ao]) (rest := []) ⟨hx, hb, hml, hown, hts⟩ (mL_shopOf hl0 (E := xEX D aX aM cA g σM) rfl ao cL (xs (6 * n + 1)) (xs (6 * n + 2)) σX fo o σX1 hfX hk H.size) (vx_cwSW 4 hts gL_law_L_shopOf rfl rfl rfl (by decide +kernel) ⟨Nat.le_of_ble_eq_true rfl, Nat.le_of_ble_eq_true rfl⟩) (x_preW _ hw hA hG hN) rfl rfl hl.1 rfl (lv_room (Nat.le_of_ble_eq_true rfl)) dL_law_2337 ⟨by show cells + 3 ≤ 601024; omega, by show slots + 18 ≤ 7293034; omega⟩) hw hA (fun H locs hw => ?_)
  refine lv_istore (lv' := [(5, .int (xcd 1 2 9 3 o)), (0, .ref b), (1, .ref (aX 0)), (2, .ref (aM 0)), (3, .ref ao), (4, .int (nI (6 * n)))]) hx hb dL_law_2340 hl (by decide) rfl (fun ls hl => ?_)
  refine lv_aload_n hx hb dL_law_2342 rfl (lv_at hl 3 rfl) ?_
  refine x_arg Cx hw.2.2.2 (lv_at hl 1 rfl) (lv_at hl 5 rfl) (k := 1) (by decide) (kv := 1) (by decide) dL_law_2343 dL_law_2344 (fun h9 => lv_iconst (v := 1) hx hb dL_law_2346 (by decide) h9) dL_law_2347 dL_law_2348 ?_
  refine x_arg Cx hw.2.2.2 (lv_at hl 1 rfl) (lv_at hl 5 rfl) (k := 2) (by decide) (kv := 2) (by decide) dL_law_2349 dL_law_2350 (fun h9 => lv_iconst (v := 2) hx hb dL_law_2352 (by decide) h9) dL_law_2353 dL_law_2354 ?_
  have hwm := xwM hw
  refine x_calli (va_runV (As := [.int (xs (6 * n + 1)), .int (xs (6 * n + 2))]) (rest := []) ⟨hx, hb, hml, hown, hts⟩ (mX12_shopOf (E := xEM D aX aM cA g ao cL σX1 (xou fo o)) rfl (xs (6 * n + 1)) (xs (6 * n + 2)) σM b9 σM1 hfM H.size) (cwV 2 hts gL_law_X12_shopOf rfl rfl rfl (by decide +kernel) ⟨Nat.le_of_ble_eq_true rfl, Nat.le_of_ble_eq_true rfl⟩) (x_preV _ hwm hA hG (cM0 rfl) rfl) rfl rfl hl.1 rfl (lv_room (Nat.le_of_ble_eq_true rfl)) dL_law_2355 ⟨by show cells + 3 + 0 ≤ 601024; omega, by show slots + 18 + 0 ≤ 7293034; omega⟩) hwm hA (fun H locs hwm => ?_)
  have hw := xwX hw.1 hwm
  refine lv_istore (lv' := [(6, .int b9), (5, .int (xcd 1 2 9 3 o)), (0, .ref b), (1, .ref (aX 0)), (2, .ref (aM 0)), (3, .ref ao), (4, .int (nI (6 * n)))]) hx hb dL_law_2358 hl (by decide) rfl (fun ls hl => ?_)
  refine lv_aload_n hx hb dL_law_2360 rfl (lv_at hl 4 rfl) ?_
  have hwm := xwM hw
  refine x_calli (va_runV (As := []) (rest := []) ⟨hx, hb, hml, hown, hts⟩ (mX12_thrown (E := xEM D aX aM cA g ao cL σX1 (xou fo o)) rfl σM1 (σM1 0 0) σM1 (show fX12_thrown σM1 = some (σM1 0 0, σM1) from rfl) H.size) (cwV 0 hts gL_law_X12_thrown rfl rfl rfl (by decide +kernel) ⟨Nat.le_of_ble_eq_true rfl, Nat.le_of_ble_eq_true rfl⟩) (x_preV _ hwm hA hG (cM0 rfl) rfl) rfl rfl hl.1 rfl (lv_room (Nat.le_of_ble_eq_true rfl)) dL_law_2361 ⟨by show cells + 3 + 0 ≤ 601024; omega, by show slots + 18 + 0 ≤ 7293034; omega⟩) hwm hA (fun H locs hwm => ?_)
  have hw := xwX hw.1 hwm
  refine lv_iload hx hb dL_law_2364 (lv_at hl 1 rfl) ?_
  refine lv_icmp_eq (tgt := 2371) hx hb dL_law_2366 (by decide) (fun _ => ?_) (fun h9 => absurd hth h9)
  refine lv_iload hx hb dL_law_2371 (lv_at hl 1 rfl) ?_
  cases o with
  | inl v =>
    · refine lv_if_ne (tgt := 2388) hx hb dL_law_2373 (by decide) (fun h9 => absurd rfl h9) (fun _ => ?_)
      refine lv_aload_n hx hb dL_law_2376 rfl (lv_at hl 5 rfl) ?_
      refine lv_iconst (v := 0) hx hb dL_law_2377 (by decide) ?_
      refine x_wlald hx hb hw dL_law_2378 ?_
      refine lv_iload hx hb dL_law_2379 (lv_at hl 0 rfl) ?_
      refine lv_i2l hx hb dL_law_2381 rfl ?_
      refine W.lcmp hx hb dL_law_2382 ?_
      refine lv_if_eq (tgt := 2388) hx hb dL_law_2383 (by decide) (fun _ => ?_) (fun h9 => absurd ((lg_cmp_eq _ _).mpr (by rw [ha v rfl]; rfl)) h9)
      refine lv_goto (tgt := 2908) hx hb dL_law_2388 (by decide) ?_
      refine W.widen (k := cells + 20) (n := slots + 120) (by omega) (by omega) ?_
      exact kk _ _ _ hw (lv_sub hl [2, 3, 4, 5, 6] rfl)
  | inr k =>
    · refine lv_if_ne (tgt := 2388) hx hb dL_law_2373 (by decide) (fun _ => ?_) (fun h9 => absurd h9 (xcd_ne (by decide) (by decide) (by decide) (by decide)))
      refine lv_goto (tgt := 2908) hx hb dL_law_2388 (by decide) ?_
      refine W.widen (k := cells + 20) (n := slots + 120) (by omega) (by omega) ?_
      exact kk _ _ _ hw (lv_sub hl [2, 3, 4, 5, 6] rfl)

set_option maxRecDepth 100000 in
set_option maxHeartbeats 4000000 in
theorem lawc_36 {p : Program} {l : Launch} {e : Env} {t : State} {m : MethodId} {args : Array Value} {below : List Frame} {meth : Method} {c : Code} {Q : State → Prop} {H : Heap} {locs : List Loc} {cells slots b L n : Nat} {xs : Nat → Int32} {A : Nat → Prop} {D : va_G} {aX aM : Nat → Nat} {cA cL : ClassId} {ao : Nat} {g : Nat × Nat × (Nat → Nat)} {σX σM : xSt} {fo : Nat → Int64} {ls : Array Slot} (hl0 : l.stackTraces = false) (Cx : xLC p t m args c b L n xs A g) (hw : xwW (xEX D aX aM cA g σM) ao cL A t.heap t σX fo H locs) (hl : lv_has ls 9 (xLl b (aX 0) (aM 0) ao (nI (6 * n)))) (hcs : cells + 20 ≤ 601024 ∧ slots + 120 ≤ 7293034) (o : xO) (b9 : Int32) (σX1 σM1 : xSt) (hfX : fX11_wayBack (xs (6 * n + 1)) (xs (6 * n + 2)) σX = some (o, σX1)) (hk : ∀ k, o = .inr k → k = 1) (hfM : fX12_wayBack (xs (6 * n + 1)) (xs (6 * n + 2)) σM = some (b9, σM1)) (hth : σM1 0 0 = xcd 9 1 9 9 o) (ha : ∀ v, o = .inl v → v = b9) (kk : ∀ (H : Heap) (locs : List Loc) (ls : Array Slot), xwW (xEX D aX aM cA g σM1) ao cL A t.heap t σX1 (xou fo o) H locs → lv_has ls 9 (xLl b (aX 0) (aM 0) ao (nI (6 * n))) → W p l e room_1 t m args below meth c H locs (cells + 20) (slots + 120) Q (F0 m 2908 ls [])) : W p l e room_1 t m args below meth c H locs cells slots Q (F0 m 2391 ls []) := by
  obtain ⟨hx, hb, hml, hown, hts, hXs, hbl, hn, hA, hbA, hG, hN⟩ := id Cx
  refine lv_aload_n hx hb dL_law_2391 rfl (lv_at hl 1 rfl) ?_
  refine x_arg Cx hw.2.2.2 (lv_at hl 0 rfl) (lv_at hl 4 rfl) (k := 1) (by decide) (kv := 1) (by decide) dL_law_2392 dL_law_2393 (fun h9 => lv_iconst (v := 1) hx hb dL_law_2395 (by decide) h9) dL_law_2396 dL_law_2397 ?_
  refine x_arg Cx hw.2.2.2 (lv_at hl 0 rfl) (lv_at hl 4 rfl) (k := 2) (by decide) (kv := 2) (by decide) dL_law_2398 dL_law_2399 (fun h9 => lv_iconst (v := 2) hx hb dL_law_2401 (by decide) h9) dL_law_2402 dL_law_2403 ?_
  refine lv_aload_n hx hb dL_law_2404 rfl (lv_at hl 3 rfl) ?_
  refine x_wcalli (vx_runSX (hh := [(0, 10, 13, 15)]) (As := [.ref (aX 0), .int (xs (6 * n + 1)), .int (xs (6 * n + 2)), .ref ao]) (rest := []) ⟨hx, hb, hml, hown, hts⟩ (mL_wayBack hl0 (E := xEX D aX aM cA g σM) rfl ao cL (xs (6 * n + 1)) (xs (6 * n + 2)) σX fo o σX1 hfX hk H.size) (vx_cwSW 4 hts gL_law_L_wayBack rfl rfl rfl (by decide +kernel) ⟨Nat.le_of_ble_eq_true rfl, Nat.le_of_ble_eq_true rfl⟩) (x_preW _ hw hA hG hN) rfl rfl hl.1 rfl (lv_room (Nat.le_of_ble_eq_true rfl)) dL_law_2405 ⟨by show cells + 1 ≤ 601024; omega, by show slots + 6 ≤ 7293034; omega⟩) hw hA (fun H locs hw => ?_)
  refine lv_istore (lv' := [(5, .int (xcd 9 1 9 9 o)), (0, .ref b), (1, .ref (aX 0)), (2, .ref (aM 0)), (3, .ref ao), (4, .int (nI (6 * n)))]) hx hb dL_law_2408 hl (by decide) rfl (fun ls hl => ?_)
  refine lv_aload_n hx hb dL_law_2410 rfl (lv_at hl 3 rfl) ?_
  refine x_arg Cx hw.2.2.2 (lv_at hl 1 rfl) (lv_at hl 5 rfl) (k := 1) (by decide) (kv := 1) (by decide) dL_law_2411 dL_law_2412 (fun h9 => lv_iconst (v := 1) hx hb dL_law_2414 (by decide) h9) dL_law_2415 dL_law_2416 ?_
  refine x_arg Cx hw.2.2.2 (lv_at hl 1 rfl) (lv_at hl 5 rfl) (k := 2) (by decide) (kv := 2) (by decide) dL_law_2417 dL_law_2418 (fun h9 => lv_iconst (v := 2) hx hb dL_law_2420 (by decide) h9) dL_law_2421 dL_law_2422 ?_
  have hwm := xwM hw
  refine x_calli (va_runV (As := [.int (xs (6 * n + 1)), .int (xs (6 * n + 2))]) (rest := []) ⟨hx, hb, hml, hown, hts⟩ (mX12_wayBack (E := xEM D aX aM cA g ao cL σX1 (xou fo o)) rfl (xs (6 * n + 1)) (xs (6 * n + 2)) σM b9 σM1 hfM H.size) (cwV 2 hts gL_law_X12_wayBack rfl rfl rfl (by decide +kernel) ⟨Nat.le_of_ble_eq_true rfl, Nat.le_of_ble_eq_true rfl⟩) (x_preV _ hwm hA hG (cM0 rfl) rfl) rfl rfl hl.1 rfl (lv_room (Nat.le_of_ble_eq_true rfl)) dL_law_2423 ⟨by show cells + 1 + 0 ≤ 601024; omega, by show slots + 6 + 0 ≤ 7293034; omega⟩) hwm hA (fun H locs hwm => ?_)
  have hw := xwX hw.1 hwm
  refine lv_istore (lv' := [(6, .int b9), (5, .int (xcd 9 1 9 9 o)), (0, .ref b), (1, .ref (aX 0)), (2, .ref (aM 0)), (3, .ref ao), (4, .int (nI (6 * n)))]) hx hb dL_law_2426 hl (by decide) rfl (fun ls hl => ?_)
  refine lv_aload_n hx hb dL_law_2428 rfl (lv_at hl 4 rfl) ?_
  have hwm := xwM hw
  refine x_calli (va_runV (As := []) (rest := []) ⟨hx, hb, hml, hown, hts⟩ (mX12_thrown (E := xEM D aX aM cA g ao cL σX1 (xou fo o)) rfl σM1 (σM1 0 0) σM1 (show fX12_thrown σM1 = some (σM1 0 0, σM1) from rfl) H.size) (cwV 0 hts gL_law_X12_thrown rfl rfl rfl (by decide +kernel) ⟨Nat.le_of_ble_eq_true rfl, Nat.le_of_ble_eq_true rfl⟩) (x_preV _ hwm hA hG (cM0 rfl) rfl) rfl rfl hl.1 rfl (lv_room (Nat.le_of_ble_eq_true rfl)) dL_law_2429 ⟨by show cells + 1 + 0 ≤ 601024; omega, by show slots + 6 + 0 ≤ 7293034; omega⟩) hwm hA (fun H locs hwm => ?_)
  have hw := xwX hw.1 hwm
  refine lv_iload hx hb dL_law_2432 (lv_at hl 1 rfl) ?_
  refine lv_icmp_eq (tgt := 2439) hx hb dL_law_2434 (by decide) (fun _ => ?_) (fun h9 => absurd hth h9)
  refine lv_iload hx hb dL_law_2439 (lv_at hl 1 rfl) ?_
  cases o with
  | inl v =>
    · refine lv_if_ne (tgt := 2456) hx hb dL_law_2441 (by decide) (fun h9 => absurd rfl h9) (fun _ => ?_)
      refine lv_aload_n hx hb dL_law_2444 rfl (lv_at hl 5 rfl) ?_
      refine lv_iconst (v := 0) hx hb dL_law_2445 (by decide) ?_
      refine x_wlald hx hb hw dL_law_2446 ?_
      refine lv_iload hx hb dL_law_2447 (lv_at hl 0 rfl) ?_
      refine lv_i2l hx hb dL_law_2449 rfl ?_
      refine W.lcmp hx hb dL_law_2450 ?_
      refine lv_if_eq (tgt := 2456) hx hb dL_law_2451 (by decide) (fun _ => ?_) (fun h9 => absurd ((lg_cmp_eq _ _).mpr (by rw [ha v rfl]; rfl)) h9)
      refine lv_goto (tgt := 2908) hx hb dL_law_2456 (by decide) ?_
      refine W.widen (k := cells + 20) (n := slots + 120) (by omega) (by omega) ?_
      exact kk _ _ _ hw (lv_sub hl [2, 3, 4, 5, 6] rfl)
  | inr k =>
    · refine lv_if_ne (tgt := 2456) hx hb dL_law_2441 (by decide) (fun _ => ?_) (fun h9 => absurd h9 (xcd_ne (by decide) (by decide) (by decide) (by decide)))
      refine lv_goto (tgt := 2908) hx hb dL_law_2456 (by decide) ?_
      refine W.widen (k := cells + 20) (n := slots + 120) (by omega) (by omega) ?_
      exact kk _ _ _ hw (lv_sub hl [2, 3, 4, 5, 6] rfl)

set_option maxRecDepth 100000 in
set_option maxHeartbeats 4000000 in
theorem lawc_37 {p : Program} {l : Launch} {e : Env} {t : State} {m : MethodId} {args : Array Value} {below : List Frame} {meth : Method} {c : Code} {Q : State → Prop} {H : Heap} {locs : List Loc} {cells slots b L n : Nat} {xs : Nat → Int32} {A : Nat → Prop} {D : va_G} {aX aM : Nat → Nat} {cA cL : ClassId} {ao : Nat} {g : Nat × Nat × (Nat → Nat)} {σX σM : xSt} {fo : Nat → Int64} {ls : Array Slot} (hl0 : l.stackTraces = false) (Cx : xLC p t m args c b L n xs A g) (hw : xwW (xEX D aX aM cA g σM) ao cL A t.heap t σX fo H locs) (hl : lv_has ls 9 (xLl b (aX 0) (aM 0) ao (nI (6 * n)))) (hcs : cells + 20 ≤ 601024 ∧ slots + 120 ≤ 7293034) (o : xO) (b9 : Int32) (σX1 σM1 : xSt) (hfX : fX11_cleaning (xs (6 * n + 1)) σX = some (o, σX1)) (hk : ∀ k, o = .inr k → k = 1) (hfM : fX12_cleaning (xs (6 * n + 1)) σM = some (b9, σM1)) (hth : σM1 0 0 = xcd 9 1 9 9 o) (ha : ∀ v, o = .inl v → v = b9) (kk : ∀ (H : Heap) (locs : List Loc) (ls : Array Slot), xwW (xEX D aX aM cA g σM1) ao cL A t.heap t σX1 (xou fo o) H locs → lv_has ls 9 (xLl b (aX 0) (aM 0) ao (nI (6 * n))) → W p l e room_1 t m args below meth c H locs (cells + 20) (slots + 120) Q (F0 m 2908 ls [])) : W p l e room_1 t m args below meth c H locs cells slots Q (F0 m 2459 ls []) := by
  obtain ⟨hx, hb, hml, hown, hts, hXs, hbl, hn, hA, hbA, hG, hN⟩ := id Cx
  refine lv_aload_n hx hb dL_law_2459 rfl (lv_at hl 1 rfl) ?_
  refine x_arg Cx hw.2.2.2 (lv_at hl 0 rfl) (lv_at hl 4 rfl) (k := 1) (by decide) (kv := 1) (by decide) dL_law_2460 dL_law_2461 (fun h9 => lv_iconst (v := 1) hx hb dL_law_2463 (by decide) h9) dL_law_2464 dL_law_2465 ?_
  refine lv_aload_n hx hb dL_law_2466 rfl (lv_at hl 3 rfl) ?_
  refine x_wcalli (vx_runSX (hh := [(0, 9, 12, 15)]) (As := [.ref (aX 0), .int (xs (6 * n + 1)), .ref ao]) (rest := []) ⟨hx, hb, hml, hown, hts⟩ (mL_cleaning hl0 (E := xEX D aX aM cA g σM) rfl ao cL (xs (6 * n + 1)) σX fo o σX1 hfX hk H.size) (vx_cwSW 3 hts gL_law_L_cleaning rfl rfl rfl (by decide +kernel) ⟨Nat.le_of_ble_eq_true rfl, Nat.le_of_ble_eq_true rfl⟩) (x_preW _ hw hA hG hN) rfl rfl hl.1 rfl (lv_room (Nat.le_of_ble_eq_true rfl)) dL_law_2467 ⟨by show cells + 1 ≤ 601024; omega, by show slots + 6 ≤ 7293034; omega⟩) hw hA (fun H locs hw => ?_)
  refine lv_istore (lv' := [(5, .int (xcd 9 1 9 9 o)), (0, .ref b), (1, .ref (aX 0)), (2, .ref (aM 0)), (3, .ref ao), (4, .int (nI (6 * n)))]) hx hb dL_law_2470 hl (by decide) rfl (fun ls hl => ?_)
  refine lv_aload_n hx hb dL_law_2472 rfl (lv_at hl 3 rfl) ?_
  refine x_arg Cx hw.2.2.2 (lv_at hl 1 rfl) (lv_at hl 5 rfl) (k := 1) (by decide) (kv := 1) (by decide) dL_law_2473 dL_law_2474 (fun h9 => lv_iconst (v := 1) hx hb dL_law_2476 (by decide) h9) dL_law_2477 dL_law_2478 ?_
  have hwm := xwM hw
  refine x_calli (va_runV (As := [.int (xs (6 * n + 1))]) (rest := []) ⟨hx, hb, hml, hown, hts⟩ (mX12_cleaning (E := xEM D aX aM cA g ao cL σX1 (xou fo o)) rfl (xs (6 * n + 1)) σM b9 σM1 hfM H.size) (cwV 1 hts gL_law_X12_cleaning rfl rfl rfl (by decide +kernel) ⟨Nat.le_of_ble_eq_true rfl, Nat.le_of_ble_eq_true rfl⟩) (x_preV _ hwm hA hG (cM0 rfl) rfl) rfl rfl hl.1 rfl (lv_room (Nat.le_of_ble_eq_true rfl)) dL_law_2479 ⟨by show cells + 1 + 0 ≤ 601024; omega, by show slots + 6 + 0 ≤ 7293034; omega⟩) hwm hA (fun H locs hwm => ?_)
  have hw := xwX hw.1 hwm
  refine lv_istore (lv' := [(6, .int b9), (5, .int (xcd 9 1 9 9 o)), (0, .ref b), (1, .ref (aX 0)), (2, .ref (aM 0)), (3, .ref ao), (4, .int (nI (6 * n)))]) hx hb dL_law_2482 hl (by decide) rfl (fun ls hl => ?_)
  refine lv_aload_n hx hb dL_law_2484 rfl (lv_at hl 4 rfl) ?_
  have hwm := xwM hw
  refine x_calli (va_runV (As := []) (rest := []) ⟨hx, hb, hml, hown, hts⟩ (mX12_thrown (E := xEM D aX aM cA g ao cL σX1 (xou fo o)) rfl σM1 (σM1 0 0) σM1 (show fX12_thrown σM1 = some (σM1 0 0, σM1) from rfl) H.size) (cwV 0 hts gL_law_X12_thrown rfl rfl rfl (by decide +kernel) ⟨Nat.le_of_ble_eq_true rfl, Nat.le_of_ble_eq_true rfl⟩) (x_preV _ hwm hA hG (cM0 rfl) rfl) rfl rfl hl.1 rfl (lv_room (Nat.le_of_ble_eq_true rfl)) dL_law_2485 ⟨by show cells + 1 + 0 ≤ 601024; omega, by show slots + 6 + 0 ≤ 7293034; omega⟩) hwm hA (fun H locs hwm => ?_)
  have hw := xwX hw.1 hwm
  refine lv_iload hx hb dL_law_2488 (lv_at hl 1 rfl) ?_
  refine lv_icmp_eq (tgt := 2495) hx hb dL_law_2490 (by decide) (fun _ => ?_) (fun h9 => absurd hth h9)
  refine lv_iload hx hb dL_law_2495 (lv_at hl 1 rfl) ?_
  cases o with
  | inl v =>
    · refine lv_if_ne (tgt := 2512) hx hb dL_law_2497 (by decide) (fun h9 => absurd rfl h9) (fun _ => ?_)
      refine lv_aload_n hx hb dL_law_2500 rfl (lv_at hl 5 rfl) ?_
      refine lv_iconst (v := 0) hx hb dL_law_2501 (by decide) ?_
      refine x_wlald hx hb hw dL_law_2502 ?_
      refine lv_iload hx hb dL_law_2503 (lv_at hl 0 rfl) ?_
      refine lv_i2l hx hb dL_law_2505 rfl ?_
      refine W.lcmp hx hb dL_law_2506 ?_
      refine lv_if_eq (tgt := 2512) hx hb dL_law_2507 (by decide) (fun _ => ?_) (fun h9 => absurd ((lg_cmp_eq _ _).mpr (by rw [ha v rfl]; rfl)) h9)
      refine lv_goto (tgt := 2908) hx hb dL_law_2512 (by decide) ?_
      refine W.widen (k := cells + 20) (n := slots + 120) (by omega) (by omega) ?_
      exact kk _ _ _ hw (lv_sub hl [2, 3, 4, 5, 6] rfl)
  | inr k =>
    · refine lv_if_ne (tgt := 2512) hx hb dL_law_2497 (by decide) (fun _ => ?_) (fun h9 => absurd h9 (xcd_ne (by decide) (by decide) (by decide) (by decide)))
      refine lv_goto (tgt := 2908) hx hb dL_law_2512 (by decide) ?_
      refine W.widen (k := cells + 20) (n := slots + 120) (by omega) (by omega) ?_
      exact kk _ _ _ hw (lv_sub hl [2, 3, 4, 5, 6] rfl)

set_option maxRecDepth 100000 in
set_option maxHeartbeats 4000000 in
theorem lawc_38 {p : Program} {l : Launch} {e : Env} {t : State} {m : MethodId} {args : Array Value} {below : List Frame} {meth : Method} {c : Code} {Q : State → Prop} {H : Heap} {locs : List Loc} {cells slots b L n : Nat} {xs : Nat → Int32} {A : Nat → Prop} {D : va_G} {aX aM : Nat → Nat} {cA cL : ClassId} {ao : Nat} {g : Nat × Nat × (Nat → Nat)} {σX σM : xSt} {fo : Nat → Int64} {ls : Array Slot} (hl0 : l.stackTraces = false) (Cx : xLC p t m args c b L n xs A g) (hw : xwW (xEX D aX aM cA g σM) ao cL A t.heap t σX fo H locs) (hl : lv_has ls 9 (xLl b (aX 0) (aM 0) ao (nI (6 * n)))) (hcs : cells + 20 ≤ 601024 ∧ slots + 120 ≤ 7293034) (o : xO) (b9 : Int32) (σX1 σM1 : xSt) (hfX : fX11_rowAt (xs (6 * n + 1)) (xs (6 * n + 2)) σX = some (o, σX1)) (hk : ∀ k, o = .inr k → k = 1 ∨ k = 0) (hfM : fX12_rowAt (xs (6 * n + 1)) (xs (6 * n + 2)) σM = some (b9, σM1)) (hth : σM1 0 0 = xcd 2 1 9 9 o) (ha : ∀ v, o = .inl v → v = b9) (kk : ∀ (H : Heap) (locs : List Loc) (ls : Array Slot), xwW (xEX D aX aM cA g σM1) ao cL A t.heap t σX1 (xou fo o) H locs → lv_has ls 9 (xLl b (aX 0) (aM 0) ao (nI (6 * n))) → W p l e room_1 t m args below meth c H locs (cells + 20) (slots + 120) Q (F0 m 2908 ls [])) : W p l e room_1 t m args below meth c H locs cells slots Q (F0 m 2515 ls []) := by
  obtain ⟨hx, hb, hml, hown, hts, hXs, hbl, hn, hA, hbA, hG, hN⟩ := id Cx
  refine lv_aload_n hx hb dL_law_2515 rfl (lv_at hl 1 rfl) ?_
  refine x_arg Cx hw.2.2.2 (lv_at hl 0 rfl) (lv_at hl 4 rfl) (k := 1) (by decide) (kv := 1) (by decide) dL_law_2516 dL_law_2517 (fun h9 => lv_iconst (v := 1) hx hb dL_law_2519 (by decide) h9) dL_law_2520 dL_law_2521 ?_
  refine x_arg Cx hw.2.2.2 (lv_at hl 0 rfl) (lv_at hl 4 rfl) (k := 2) (by decide) (kv := 2) (by decide) dL_law_2522 dL_law_2523 (fun h9 => lv_iconst (v := 2) hx hb dL_law_2525 (by decide) h9) dL_law_2526 dL_law_2527 ?_
  refine lv_aload_n hx hb dL_law_2528 rfl (lv_at hl 3 rfl) ?_
  refine x_wcalli (vx_runSX (hh := [(0, 10, 13, 15), (0, 10, 17, 13)]) (As := [.ref (aX 0), .int (xs (6 * n + 1)), .int (xs (6 * n + 2)), .ref ao]) (rest := []) ⟨hx, hb, hml, hown, hts⟩ (mL_rowAt hl0 (E := xEX D aX aM cA g σM) rfl ao cL (xs (6 * n + 1)) (xs (6 * n + 2)) σX fo o σX1 hfX hk H.size) (vx_cwSW 4 hts gL_law_L_rowAt rfl rfl rfl (by decide +kernel) ⟨Nat.le_of_ble_eq_true rfl, Nat.le_of_ble_eq_true rfl⟩) (x_preW _ hw hA hG hN) rfl rfl hl.1 rfl (lv_room (Nat.le_of_ble_eq_true rfl)) dL_law_2529 ⟨by show cells + 2 ≤ 601024; omega, by show slots + 12 ≤ 7293034; omega⟩) hw hA (fun H locs hw => ?_)
  refine lv_istore (lv' := [(5, .int (xcd 2 1 9 9 o)), (0, .ref b), (1, .ref (aX 0)), (2, .ref (aM 0)), (3, .ref ao), (4, .int (nI (6 * n)))]) hx hb dL_law_2532 hl (by decide) rfl (fun ls hl => ?_)
  refine lv_aload_n hx hb dL_law_2534 rfl (lv_at hl 3 rfl) ?_
  refine x_arg Cx hw.2.2.2 (lv_at hl 1 rfl) (lv_at hl 5 rfl) (k := 1) (by decide) (kv := 1) (by decide) dL_law_2535 dL_law_2536 (fun h9 => lv_iconst (v := 1) hx hb dL_law_2538 (by decide) h9) dL_law_2539 dL_law_2540 ?_
  refine x_arg Cx hw.2.2.2 (lv_at hl 1 rfl) (lv_at hl 5 rfl) (k := 2) (by decide) (kv := 2) (by decide) dL_law_2541 dL_law_2542 (fun h9 => lv_iconst (v := 2) hx hb dL_law_2544 (by decide) h9) dL_law_2545 dL_law_2546 ?_
  have hwm := xwM hw
  refine x_calli (va_runV (As := [.int (xs (6 * n + 1)), .int (xs (6 * n + 2))]) (rest := []) ⟨hx, hb, hml, hown, hts⟩ (mX12_rowAt (E := xEM D aX aM cA g ao cL σX1 (xou fo o)) rfl (xs (6 * n + 1)) (xs (6 * n + 2)) σM b9 σM1 hfM H.size) (cwV 2 hts gL_law_X12_rowAt rfl rfl rfl (by decide +kernel) ⟨Nat.le_of_ble_eq_true rfl, Nat.le_of_ble_eq_true rfl⟩) (x_preV _ hwm hA hG (cM0 rfl) rfl) rfl rfl hl.1 rfl (lv_room (Nat.le_of_ble_eq_true rfl)) dL_law_2547 ⟨by show cells + 2 + 0 ≤ 601024; omega, by show slots + 12 + 0 ≤ 7293034; omega⟩) hwm hA (fun H locs hwm => ?_)
  have hw := xwX hw.1 hwm
  refine lv_istore (lv' := [(6, .int b9), (5, .int (xcd 2 1 9 9 o)), (0, .ref b), (1, .ref (aX 0)), (2, .ref (aM 0)), (3, .ref ao), (4, .int (nI (6 * n)))]) hx hb dL_law_2550 hl (by decide) rfl (fun ls hl => ?_)
  refine lv_aload_n hx hb dL_law_2552 rfl (lv_at hl 4 rfl) ?_
  have hwm := xwM hw
  refine x_calli (va_runV (As := []) (rest := []) ⟨hx, hb, hml, hown, hts⟩ (mX12_thrown (E := xEM D aX aM cA g ao cL σX1 (xou fo o)) rfl σM1 (σM1 0 0) σM1 (show fX12_thrown σM1 = some (σM1 0 0, σM1) from rfl) H.size) (cwV 0 hts gL_law_X12_thrown rfl rfl rfl (by decide +kernel) ⟨Nat.le_of_ble_eq_true rfl, Nat.le_of_ble_eq_true rfl⟩) (x_preV _ hwm hA hG (cM0 rfl) rfl) rfl rfl hl.1 rfl (lv_room (Nat.le_of_ble_eq_true rfl)) dL_law_2553 ⟨by show cells + 2 + 0 ≤ 601024; omega, by show slots + 12 + 0 ≤ 7293034; omega⟩) hwm hA (fun H locs hwm => ?_)
  have hw := xwX hw.1 hwm
  refine lv_iload hx hb dL_law_2556 (lv_at hl 1 rfl) ?_
  refine lv_icmp_eq (tgt := 2563) hx hb dL_law_2558 (by decide) (fun _ => ?_) (fun h9 => absurd hth h9)
  refine lv_iload hx hb dL_law_2563 (lv_at hl 1 rfl) ?_
  cases o with
  | inl v =>
    · refine lv_if_ne (tgt := 2580) hx hb dL_law_2565 (by decide) (fun h9 => absurd rfl h9) (fun _ => ?_)
      refine lv_aload_n hx hb dL_law_2568 rfl (lv_at hl 5 rfl) ?_
      refine lv_iconst (v := 0) hx hb dL_law_2569 (by decide) ?_
      refine x_wlald hx hb hw dL_law_2570 ?_
      refine lv_iload hx hb dL_law_2571 (lv_at hl 0 rfl) ?_
      refine lv_i2l hx hb dL_law_2573 rfl ?_
      refine W.lcmp hx hb dL_law_2574 ?_
      refine lv_if_eq (tgt := 2580) hx hb dL_law_2575 (by decide) (fun _ => ?_) (fun h9 => absurd ((lg_cmp_eq _ _).mpr (by rw [ha v rfl]; rfl)) h9)
      refine lv_goto (tgt := 2908) hx hb dL_law_2580 (by decide) ?_
      refine W.widen (k := cells + 20) (n := slots + 120) (by omega) (by omega) ?_
      exact kk _ _ _ hw (lv_sub hl [2, 3, 4, 5, 6] rfl)
  | inr k =>
    · refine lv_if_ne (tgt := 2580) hx hb dL_law_2565 (by decide) (fun _ => ?_) (fun h9 => absurd h9 (xcd_ne (by decide) (by decide) (by decide) (by decide)))
      refine lv_goto (tgt := 2908) hx hb dL_law_2580 (by decide) ?_
      refine W.widen (k := cells + 20) (n := slots + 120) (by omega) (by omega) ?_
      exact kk _ _ _ hw (lv_sub hl [2, 3, 4, 5, 6] rfl)

set_option maxRecDepth 100000 in
set_option maxHeartbeats 4000000 in
theorem lawc_39 {p : Program} {l : Launch} {e : Env} {t : State} {m : MethodId} {args : Array Value} {below : List Frame} {meth : Method} {c : Code} {Q : State → Prop} {H : Heap} {locs : List Loc} {cells slots b L n : Nat} {xs : Nat → Int32} {A : Nat → Prop} {D : va_G} {aX aM : Nat → Nat} {cA cL : ClassId} {ao : Nat} {g : Nat × Nat × (Nat → Nat)} {σX σM : xSt} {fo : Nat → Int64} {ls : Array Slot} (hl0 : l.stackTraces = false) (Cx : xLC p t m args c b L n xs A g) (hw : xwW (xEX D aX aM cA g σM) ao cL A t.heap t σX fo H locs) (hl : lv_has ls 9 (xLl b (aX 0) (aM 0) ao (nI (6 * n)))) (hcs : cells + 20 ≤ 601024 ∧ slots + 120 ≤ 7293034) (o : xO) (b9 : Int32) (σX1 σM1 : xSt) (hfX : fX11_book (xs (6 * n + 1)) σX = some (o, σX1)) (hk : ∀ k, o = .inr k → k = 1) (hfM : fX12_book (xs (6 * n + 1)) σM = some (b9, σM1)) (hth : σM1 0 0 = xcd 9 1 9 9 o) (ha : ∀ v, o = .inl v → v = b9) (kk : ∀ (H : Heap) (locs : List Loc) (ls : Array Slot), xwW (xEX D aX aM cA g σM1) ao cL A t.heap t σX1 (xou fo o) H locs → lv_has ls 9 (xLl b (aX 0) (aM 0) ao (nI (6 * n))) → W p l e room_1 t m args below meth c H locs (cells + 20) (slots + 120) Q (F0 m 2908 ls [])) : W p l e room_1 t m args below meth c H locs cells slots Q (F0 m 2583 ls []) := by
  obtain ⟨hx, hb, hml, hown, hts, hXs, hbl, hn, hA, hbA, hG, hN⟩ := id Cx
  refine lv_aload_n hx hb dL_law_2583 rfl (lv_at hl 1 rfl) ?_
  refine x_arg Cx hw.2.2.2 (lv_at hl 0 rfl) (lv_at hl 4 rfl) (k := 1) (by decide) (kv := 1) (by decide) dL_law_2584 dL_law_2585 (fun h9 => lv_iconst (v := 1) hx hb dL_law_2587 (by decide) h9) dL_law_2588 dL_law_2589 ?_
  refine lv_aload_n hx hb dL_law_2590 rfl (lv_at hl 3 rfl) ?_
  refine x_wcalli (vx_runSX (hh := [(0, 9, 12, 15)]) (As := [.ref (aX 0), .int (xs (6 * n + 1)), .ref ao]) (rest := []) ⟨hx, hb, hml, hown, hts⟩ (mL_book hl0 (E := xEX D aX aM cA g σM) rfl ao cL (xs (6 * n + 1)) σX fo o σX1 hfX hk H.size) (vx_cwSW 3 hts gL_law_L_book rfl rfl rfl (by decide +kernel) ⟨Nat.le_of_ble_eq_true rfl, Nat.le_of_ble_eq_true rfl⟩) (x_preW _ hw hA hG hN) rfl rfl hl.1 rfl (lv_room (Nat.le_of_ble_eq_true rfl)) dL_law_2591 ⟨by show cells + 1 ≤ 601024; omega, by show slots + 6 ≤ 7293034; omega⟩) hw hA (fun H locs hw => ?_)
  refine lv_istore (lv' := [(5, .int (xcd 9 1 9 9 o)), (0, .ref b), (1, .ref (aX 0)), (2, .ref (aM 0)), (3, .ref ao), (4, .int (nI (6 * n)))]) hx hb dL_law_2594 hl (by decide) rfl (fun ls hl => ?_)
  refine lv_aload_n hx hb dL_law_2596 rfl (lv_at hl 3 rfl) ?_
  refine x_arg Cx hw.2.2.2 (lv_at hl 1 rfl) (lv_at hl 5 rfl) (k := 1) (by decide) (kv := 1) (by decide) dL_law_2597 dL_law_2598 (fun h9 => lv_iconst (v := 1) hx hb dL_law_2600 (by decide) h9) dL_law_2601 dL_law_2602 ?_
  have hwm := xwM hw
  refine x_calli (va_runV (As := [.int (xs (6 * n + 1))]) (rest := []) ⟨hx, hb, hml, hown, hts⟩ (mX12_book (E := xEM D aX aM cA g ao cL σX1 (xou fo o)) rfl (xs (6 * n + 1)) σM b9 σM1 hfM H.size) (cwV 1 hts gL_law_X12_book rfl rfl rfl (by decide +kernel) ⟨Nat.le_of_ble_eq_true rfl, Nat.le_of_ble_eq_true rfl⟩) (x_preV _ hwm hA hG (cM0 rfl) rfl) rfl rfl hl.1 rfl (lv_room (Nat.le_of_ble_eq_true rfl)) dL_law_2603 ⟨by show cells + 1 + 0 ≤ 601024; omega, by show slots + 6 + 0 ≤ 7293034; omega⟩) hwm hA (fun H locs hwm => ?_)
  have hw := xwX hw.1 hwm
  refine lv_istore (lv' := [(6, .int b9), (5, .int (xcd 9 1 9 9 o)), (0, .ref b), (1, .ref (aX 0)), (2, .ref (aM 0)), (3, .ref ao), (4, .int (nI (6 * n)))]) hx hb dL_law_2606 hl (by decide) rfl (fun ls hl => ?_)
  refine lv_aload_n hx hb dL_law_2608 rfl (lv_at hl 4 rfl) ?_
  have hwm := xwM hw
  refine x_calli (va_runV (As := []) (rest := []) ⟨hx, hb, hml, hown, hts⟩ (mX12_thrown (E := xEM D aX aM cA g ao cL σX1 (xou fo o)) rfl σM1 (σM1 0 0) σM1 (show fX12_thrown σM1 = some (σM1 0 0, σM1) from rfl) H.size) (cwV 0 hts gL_law_X12_thrown rfl rfl rfl (by decide +kernel) ⟨Nat.le_of_ble_eq_true rfl, Nat.le_of_ble_eq_true rfl⟩) (x_preV _ hwm hA hG (cM0 rfl) rfl) rfl rfl hl.1 rfl (lv_room (Nat.le_of_ble_eq_true rfl)) dL_law_2609 ⟨by show cells + 1 + 0 ≤ 601024; omega, by show slots + 6 + 0 ≤ 7293034; omega⟩) hwm hA (fun H locs hwm => ?_)
  have hw := xwX hw.1 hwm
  refine lv_iload hx hb dL_law_2612 (lv_at hl 1 rfl) ?_
  refine lv_icmp_eq (tgt := 2619) hx hb dL_law_2614 (by decide) (fun _ => ?_) (fun h9 => absurd hth h9)
  refine lv_iload hx hb dL_law_2619 (lv_at hl 1 rfl) ?_
  cases o with
  | inl v =>
    · refine lv_if_ne (tgt := 2636) hx hb dL_law_2621 (by decide) (fun h9 => absurd rfl h9) (fun _ => ?_)
      refine lv_aload_n hx hb dL_law_2624 rfl (lv_at hl 5 rfl) ?_
      refine lv_iconst (v := 0) hx hb dL_law_2625 (by decide) ?_
      refine x_wlald hx hb hw dL_law_2626 ?_
      refine lv_iload hx hb dL_law_2627 (lv_at hl 0 rfl) ?_
      refine lv_i2l hx hb dL_law_2629 rfl ?_
      refine W.lcmp hx hb dL_law_2630 ?_
      refine lv_if_eq (tgt := 2636) hx hb dL_law_2631 (by decide) (fun _ => ?_) (fun h9 => absurd ((lg_cmp_eq _ _).mpr (by rw [ha v rfl]; rfl)) h9)
      refine lv_goto (tgt := 2908) hx hb dL_law_2636 (by decide) ?_
      refine W.widen (k := cells + 20) (n := slots + 120) (by omega) (by omega) ?_
      exact kk _ _ _ hw (lv_sub hl [2, 3, 4, 5, 6] rfl)
  | inr k =>
    · refine lv_if_ne (tgt := 2636) hx hb dL_law_2621 (by decide) (fun _ => ?_) (fun h9 => absurd h9 (xcd_ne (by decide) (by decide) (by decide) (by decide)))
      refine lv_goto (tgt := 2908) hx hb dL_law_2636 (by decide) ?_
      refine W.widen (k := cells + 20) (n := slots + 120) (by omega) (by omega) ?_
      exact kk _ _ _ hw (lv_sub hl [2, 3, 4, 5, 6] rfl)

set_option maxRecDepth 100000 in
set_option maxHeartbeats 4000000 in
theorem lawc_40 {p : Program} {l : Launch} {e : Env} {t : State} {m : MethodId} {args : Array Value} {below : List Frame} {meth : Method} {c : Code} {Q : State → Prop} {H : Heap} {locs : List Loc} {cells slots b L n : Nat} {xs : Nat → Int32} {A : Nat → Prop} {D : va_G} {aX aM : Nat → Nat} {cA cL : ClassId} {ao : Nat} {g : Nat × Nat × (Nat → Nat)} {σX σM : xSt} {fo : Nat → Int64} {ls : Array Slot} (hl0 : l.stackTraces = false) (Cx : xLC p t m args c b L n xs A g) (hw : xwW (xEX D aX aM cA g σM) ao cL A t.heap t σX fo H locs) (hl : lv_has ls 9 (xLl b (aX 0) (aM 0) ao (nI (6 * n)))) (hcs : cells + 20 ≤ 601024 ∧ slots + 120 ≤ 7293034) (o : xO) (b9 : Int32) (σX1 σM1 : xSt) (hfX : fX11_type ((Int32.toInt64 (xs (6 * n + 1))) <<< ((32 : Int32).toInt64 &&& 63) ||| ((Int32.toInt64 (xs (6 * n + 2))) &&& 4294967295)) σX = some (o, σX1)) (hk : ∀ k, o = .inr k → k = 1 ∨ k = 2) (hfM : fX12_type ((Int32.toInt64 (xs (6 * n + 1))) <<< ((32 : Int32).toInt64 &&& 63) ||| ((Int32.toInt64 (xs (6 * n + 2))) &&& 4294967295)) σM = some (b9, σM1)) (hth : σM1 0 0 = xcd 9 1 2 9 o) (ha : ∀ v, o = .inl v → v = b9) (kk : ∀ (H : Heap) (locs : List Loc) (ls : Array Slot), xwW (xEX D aX aM cA g σM1) ao cL A t.heap t σX1 (xou fo o) H locs → lv_has ls 9 (xLl b (aX 0) (aM 0) ao (nI (6 * n))) → W p l e room_1 t m args below meth c H locs (cells + 20) (slots + 120) Q (F0 m 2908 ls [])) : W p l e room_1 t m args below meth c H locs cells slots Q (F0 m 2639 ls []) := by
  obtain ⟨hx, hb, hml, hown, hts, hXs, hbl, hn, hA, hbA, hG, hN⟩ := id Cx
  have hm_cl : Cond.constantLong RL 274 (4294967295) ∈ wsL_law := by decide +kernel
  refine lv_aload_n hx hb dL_law_2639 rfl (lv_at hl 1 rfl) ?_
  refine x_arg Cx hw.2.2.2 (lv_at hl 0 rfl) (lv_at hl 4 rfl) (k := 1) (by decide) (kv := 1) (by decide) dL_law_2640 dL_law_2641 (fun h9 => lv_iconst (v := 1) hx hb dL_law_2643 (by decide) h9) dL_law_2644 dL_law_2645 ?_
  refine lv_i2l hx hb dL_law_2646 rfl ?_
  refine lv_bipush (v := 32) hx hb dL_law_2647 (by decide) ?_
  refine lv_lshl hx hb dL_law_2649 rfl ?_
  refine x_arg Cx hw.2.2.2 (lv_at hl 0 rfl) (lv_at hl 4 rfl) (k := 2) (by decide) (kv := 2) (by decide) dL_law_2650 dL_law_2651 (fun h9 => lv_iconst (v := 2) hx hb dL_law_2653 (by decide) h9) dL_law_2654 dL_law_2655 ?_
  refine lv_i2l hx hb dL_law_2656 rfl ?_
  refine lv_ldc2 hx hb hown (hts (.constantLong RL 274 (4294967295)) hm_cl) dL_law_2657 ?_
  refine lv_land hx hb dL_law_2660 ?_
  refine lv_lor hx hb dL_law_2661 ?_
  refine lv_aload_n hx hb dL_law_2662 rfl (lv_at hl 3 rfl) ?_
  refine x_wcalli (vx_runSX (hh := [(0, 9, 12, 15), (0, 9, 16, 17)]) (As := [.ref (aX 0), .long (((Int32.toInt64 (xs (6 * n + 1))) <<< ((32 : Int32).toInt64 &&& 63)) ||| ((Int32.toInt64 (xs (6 * n + 2))) &&& 4294967295)), .ref ao]) (rest := []) ⟨hx, hb, hml, hown, hts⟩ (mL_type hl0 (E := xEX D aX aM cA g σM) rfl ao cL (((Int32.toInt64 (xs (6 * n + 1))) <<< ((32 : Int32).toInt64 &&& 63)) ||| ((Int32.toInt64 (xs (6 * n + 2))) &&& 4294967295)) σX fo o σX1 hfX hk H.size) (vx_cwSW 3 hts gL_law_L_type rfl rfl rfl (by decide +kernel) ⟨Nat.le_of_ble_eq_true rfl, Nat.le_of_ble_eq_true rfl⟩) (x_preW _ hw hA hG hN) rfl rfl hl.1 rfl (lv_room (Nat.le_of_ble_eq_true rfl)) dL_law_2663 ⟨by show cells + 2 ≤ 601024; omega, by show slots + 12 ≤ 7293034; omega⟩) hw hA (fun H locs hw => ?_)
  refine lv_istore (lv' := [(5, .int (xcd 9 1 2 9 o)), (0, .ref b), (1, .ref (aX 0)), (2, .ref (aM 0)), (3, .ref ao), (4, .int (nI (6 * n)))]) hx hb dL_law_2666 hl (by decide) rfl (fun ls hl => ?_)
  refine lv_aload_n hx hb dL_law_2668 rfl (lv_at hl 3 rfl) ?_
  refine x_arg Cx hw.2.2.2 (lv_at hl 1 rfl) (lv_at hl 5 rfl) (k := 1) (by decide) (kv := 1) (by decide) dL_law_2669 dL_law_2670 (fun h9 => lv_iconst (v := 1) hx hb dL_law_2672 (by decide) h9) dL_law_2673 dL_law_2674 ?_
  refine lv_i2l hx hb dL_law_2675 rfl ?_
  refine lv_bipush (v := 32) hx hb dL_law_2676 (by decide) ?_
  refine lv_lshl hx hb dL_law_2678 rfl ?_
  refine x_arg Cx hw.2.2.2 (lv_at hl 1 rfl) (lv_at hl 5 rfl) (k := 2) (by decide) (kv := 2) (by decide) dL_law_2679 dL_law_2680 (fun h9 => lv_iconst (v := 2) hx hb dL_law_2682 (by decide) h9) dL_law_2683 dL_law_2684 ?_
  refine lv_i2l hx hb dL_law_2685 rfl ?_
  refine lv_ldc2 hx hb hown (hts (.constantLong RL 274 (4294967295)) hm_cl) dL_law_2686 ?_
  refine lv_land hx hb dL_law_2689 ?_
  refine lv_lor hx hb dL_law_2690 ?_
  have hwm := xwM hw
  refine x_calli (va_runV (As := [.long (((Int32.toInt64 (xs (6 * n + 1))) <<< ((32 : Int32).toInt64 &&& 63)) ||| ((Int32.toInt64 (xs (6 * n + 2))) &&& 4294967295))]) (rest := []) ⟨hx, hb, hml, hown, hts⟩ (mX12_type (E := xEM D aX aM cA g ao cL σX1 (xou fo o)) rfl (((Int32.toInt64 (xs (6 * n + 1))) <<< ((32 : Int32).toInt64 &&& 63)) ||| ((Int32.toInt64 (xs (6 * n + 2))) &&& 4294967295)) σM b9 σM1 hfM H.size) (cwV 1 hts gL_law_X12_type rfl rfl rfl (by decide +kernel) ⟨Nat.le_of_ble_eq_true rfl, Nat.le_of_ble_eq_true rfl⟩) (x_preV _ hwm hA hG (cM0 rfl) rfl) rfl rfl hl.1 rfl (lv_room (Nat.le_of_ble_eq_true rfl)) dL_law_2691 ⟨by show cells + 2 + 0 ≤ 601024; omega, by show slots + 12 + 0 ≤ 7293034; omega⟩) hwm hA (fun H locs hwm => ?_)
  have hw := xwX hw.1 hwm
  refine lv_istore (lv' := [(6, .int b9), (5, .int (xcd 9 1 2 9 o)), (0, .ref b), (1, .ref (aX 0)), (2, .ref (aM 0)), (3, .ref ao), (4, .int (nI (6 * n)))]) hx hb dL_law_2694 hl (by decide) rfl (fun ls hl => ?_)
  refine lv_aload_n hx hb dL_law_2696 rfl (lv_at hl 4 rfl) ?_
  have hwm := xwM hw
  refine x_calli (va_runV (As := []) (rest := []) ⟨hx, hb, hml, hown, hts⟩ (mX12_thrown (E := xEM D aX aM cA g ao cL σX1 (xou fo o)) rfl σM1 (σM1 0 0) σM1 (show fX12_thrown σM1 = some (σM1 0 0, σM1) from rfl) H.size) (cwV 0 hts gL_law_X12_thrown rfl rfl rfl (by decide +kernel) ⟨Nat.le_of_ble_eq_true rfl, Nat.le_of_ble_eq_true rfl⟩) (x_preV _ hwm hA hG (cM0 rfl) rfl) rfl rfl hl.1 rfl (lv_room (Nat.le_of_ble_eq_true rfl)) dL_law_2697 ⟨by show cells + 2 + 0 ≤ 601024; omega, by show slots + 12 + 0 ≤ 7293034; omega⟩) hwm hA (fun H locs hwm => ?_)
  have hw := xwX hw.1 hwm
  refine lv_iload hx hb dL_law_2700 (lv_at hl 1 rfl) ?_
  refine lv_icmp_eq (tgt := 2707) hx hb dL_law_2702 (by decide) (fun _ => ?_) (fun h9 => absurd hth h9)
  refine lv_iload hx hb dL_law_2707 (lv_at hl 1 rfl) ?_
  cases o with
  | inl v =>
    · refine lv_if_ne (tgt := 2724) hx hb dL_law_2709 (by decide) (fun h9 => absurd rfl h9) (fun _ => ?_)
      refine lv_aload_n hx hb dL_law_2712 rfl (lv_at hl 5 rfl) ?_
      refine lv_iconst (v := 0) hx hb dL_law_2713 (by decide) ?_
      refine x_wlald hx hb hw dL_law_2714 ?_
      refine lv_iload hx hb dL_law_2715 (lv_at hl 0 rfl) ?_
      refine lv_i2l hx hb dL_law_2717 rfl ?_
      refine W.lcmp hx hb dL_law_2718 ?_
      refine lv_if_eq (tgt := 2724) hx hb dL_law_2719 (by decide) (fun _ => ?_) (fun h9 => absurd ((lg_cmp_eq _ _).mpr (by rw [ha v rfl]; rfl)) h9)
      refine lv_goto (tgt := 2908) hx hb dL_law_2724 (by decide) ?_
      refine W.widen (k := cells + 20) (n := slots + 120) (by omega) (by omega) ?_
      exact kk _ _ _ hw (lv_sub hl [2, 3, 4, 5, 6] rfl)
  | inr k =>
    · refine lv_if_ne (tgt := 2724) hx hb dL_law_2709 (by decide) (fun _ => ?_) (fun h9 => absurd h9 (xcd_ne (by decide) (by decide) (by decide) (by decide)))
      refine lv_goto (tgt := 2908) hx hb dL_law_2724 (by decide) ?_
      refine W.widen (k := cells + 20) (n := slots + 120) (by omega) (by omega) ?_
      exact kk _ _ _ hw (lv_sub hl [2, 3, 4, 5, 6] rfl)

set_option maxRecDepth 100000 in
set_option maxHeartbeats 4000000 in
theorem lawc_41 {p : Program} {l : Launch} {e : Env} {t : State} {m : MethodId} {args : Array Value} {below : List Frame} {meth : Method} {c : Code} {Q : State → Prop} {H : Heap} {locs : List Loc} {cells slots b L n : Nat} {xs : Nat → Int32} {A : Nat → Prop} {D : va_G} {aX aM : Nat → Nat} {cA cL : ClassId} {ao : Nat} {g : Nat × Nat × (Nat → Nat)} {σX σM : xSt} {fo : Nat → Int64} {ls : Array Slot} (hl0 : l.stackTraces = false) (Cx : xLC p t m args c b L n xs A g) (hw : xwW (xEX D aX aM cA g σM) ao cL A t.heap t σX fo H locs) (hl : lv_has ls 9 (xLl b (aX 0) (aM 0) ao (nI (6 * n)))) (hcs : cells + 20 ≤ 601024 ∧ slots + 120 ≤ 7293034) (v9 b9 : Int32) (σX1 σM1 : xSt) (hfX : fX11_fault σX = some (v9, σX1)) (hfM : fX12_fault σM = some (b9, σM1)) (heq : v9 = b9) (kk : ∀ (H : Heap) (locs : List Loc) (ls : Array Slot), xwW (xEX D aX aM cA g σM1) ao cL A t.heap t σX1 fo H locs → lv_has ls 9 (xLl b (aX 0) (aM 0) ao (nI (6 * n))) → W p l e room_1 t m args below meth c H locs (cells + 20) (slots + 120) Q (F0 m 2908 ls [])) : W p l e room_1 t m args below meth c H locs cells slots Q (F0 m 2727 ls []) := by
  obtain ⟨hx, hb, hml, hown, hts, hXs, hbl, hn, hA, hbA, hG, hN⟩ := id Cx
  refine lv_aload_n hx hb dL_law_2727 rfl (lv_at hl 1 rfl) ?_
  refine x_calli (va_runV (As := []) (rest := []) ⟨hx, hb, hml, hown, hts⟩ (mX11_fault (E := xEO (xEX D aX aM cA g σM) ao cL fo) rfl σX v9 σX1 hfX H.size) (cwV 0 hts gL_law_X11_fault rfl rfl rfl (by decide +kernel) ⟨Nat.le_of_ble_eq_true rfl, Nat.le_of_ble_eq_true rfl⟩) (x_preV _ hw.in hA hG (cX0 rfl) rfl) rfl rfl hl.1 rfl (lv_room (Nat.le_of_ble_eq_true rfl)) dL_law_2728 ⟨by show cells + 0 ≤ 601024; omega, by show slots + 0 ≤ 7293034; omega⟩) hw.in hA (fun H locs hw9 => ?_)
  have hw := xwW.of hw.1 hw9
  refine lv_aload_n hx hb dL_law_2731 rfl (lv_at hl 2 rfl) ?_
  have hwm := xwM hw
  refine x_calli (va_runV (As := []) (rest := [.int v9]) ⟨hx, hb, hml, hown, hts⟩ (mX12_fault (E := xEM D aX aM cA g ao cL σX1 fo) rfl σM b9 σM1 hfM H.size) (cwV 0 hts gL_law_X12_fault rfl rfl rfl (by decide +kernel) ⟨Nat.le_of_ble_eq_true rfl, Nat.le_of_ble_eq_true rfl⟩) (x_preV _ hwm hA hG (cM0 rfl) rfl) rfl rfl hl.1 rfl (lv_room (Nat.le_of_ble_eq_true rfl)) dL_law_2732 ⟨by show cells + 0 ≤ 601024; omega, by show slots + 0 ≤ 7293034; omega⟩) hwm hA (fun H locs hwm => ?_)
  have hw := xwX hw.1 hwm
  refine lv_icmp_eq (tgt := 2908) hx hb dL_law_2735 (by decide) (fun _ => ?_) (fun h9 => absurd heq h9)
  refine W.widen (k := cells + 20) (n := slots + 120) (by omega) (by omega) ?_
  exact kk _ _ _ hw (lv_sub hl [0, 1, 2, 3, 4] rfl)

set_option maxRecDepth 100000 in
set_option maxHeartbeats 4000000 in
theorem lawc_42 {p : Program} {l : Launch} {e : Env} {t : State} {m : MethodId} {args : Array Value} {below : List Frame} {meth : Method} {c : Code} {Q : State → Prop} {H : Heap} {locs : List Loc} {cells slots b L n : Nat} {xs : Nat → Int32} {A : Nat → Prop} {D : va_G} {aX aM : Nat → Nat} {cA cL : ClassId} {ao : Nat} {g : Nat × Nat × (Nat → Nat)} {σX σM : xSt} {fo : Nat → Int64} {ls : Array Slot} (hl0 : l.stackTraces = false) (Cx : xLC p t m args c b L n xs A g) (hw : xwW (xEX D aX aM cA g σM) ao cL A t.heap t σX fo H locs) (hl : lv_has ls 9 (xLl b (aX 0) (aM 0) ao (nI (6 * n)))) (hcs : cells + 20 ≤ 601024 ∧ slots + 120 ≤ 7293034) (o : xO) (b9 : Int32) (σX1 σM1 : xSt) (hfX : fX11_undo σX = some (o, σX1)) (hk : ∀ k, o = .inr k → k = 2) (hfM : fX12_undo σM = some (b9, σM1)) (hth : σM1 0 0 = xcd 9 9 1 9 o) (ha : ∀ v, o = .inl v → v = b9) (kk : ∀ (H : Heap) (locs : List Loc) (ls : Array Slot), xwW (xEX D aX aM cA g σM1) ao cL A t.heap t σX1 (xou fo o) H locs → lv_has ls 9 (xLl b (aX 0) (aM 0) ao (nI (6 * n))) → W p l e room_1 t m args below meth c H locs (cells + 20) (slots + 120) Q (F0 m 2908 ls [])) : W p l e room_1 t m args below meth c H locs cells slots Q (F0 m 2740 ls []) := by
  obtain ⟨hx, hb, hml, hown, hts, hXs, hbl, hn, hA, hbA, hG, hN⟩ := id Cx
  refine lv_aload_n hx hb dL_law_2740 rfl (lv_at hl 1 rfl) ?_
  refine lv_aload_n hx hb dL_law_2741 rfl (lv_at hl 3 rfl) ?_
  refine x_wcalli (vx_runSX (hh := [(0, 8, 11, 17)]) (As := [.ref (aX 0), .ref ao]) (rest := []) ⟨hx, hb, hml, hown, hts⟩ (mL_undo hl0 (E := xEX D aX aM cA g σM) rfl ao cL  σX fo o σX1 hfX hk H.size) (vx_cwSW 2 hts gL_law_L_undo rfl rfl rfl (by decide +kernel) ⟨Nat.le_of_ble_eq_true rfl, Nat.le_of_ble_eq_true rfl⟩) (x_preW _ hw hA hG hN) rfl rfl hl.1 rfl (lv_room (Nat.le_of_ble_eq_true rfl)) dL_law_2742 ⟨by show cells + 1 ≤ 601024; omega, by show slots + 6 ≤ 7293034; omega⟩) hw hA (fun H locs hw => ?_)
  refine lv_istore (lv' := [(5, .int (xcd 9 9 1 9 o)), (0, .ref b), (1, .ref (aX 0)), (2, .ref (aM 0)), (3, .ref ao), (4, .int (nI (6 * n)))]) hx hb dL_law_2745 hl (by decide) rfl (fun ls hl => ?_)
  refine lv_aload_n hx hb dL_law_2747 rfl (lv_at hl 3 rfl) ?_
  have hwm := xwM hw
  refine x_calli (va_runV (As := []) (rest := []) ⟨hx, hb, hml, hown, hts⟩ (mX12_undo (E := xEM D aX aM cA g ao cL σX1 (xou fo o)) rfl σM b9 σM1 hfM H.size) (cwV 0 hts gL_law_X12_undo rfl rfl rfl (by decide +kernel) ⟨Nat.le_of_ble_eq_true rfl, Nat.le_of_ble_eq_true rfl⟩) (x_preV _ hwm hA hG (cM0 rfl) rfl) rfl rfl hl.1 rfl (lv_room (Nat.le_of_ble_eq_true rfl)) dL_law_2748 ⟨by show cells + 1 + 0 ≤ 601024; omega, by show slots + 6 + 0 ≤ 7293034; omega⟩) hwm hA (fun H locs hwm => ?_)
  have hw := xwX hw.1 hwm
  refine lv_istore (lv' := [(6, .int b9), (5, .int (xcd 9 9 1 9 o)), (0, .ref b), (1, .ref (aX 0)), (2, .ref (aM 0)), (3, .ref ao), (4, .int (nI (6 * n)))]) hx hb dL_law_2751 hl (by decide) rfl (fun ls hl => ?_)
  refine lv_aload_n hx hb dL_law_2753 rfl (lv_at hl 4 rfl) ?_
  have hwm := xwM hw
  refine x_calli (va_runV (As := []) (rest := []) ⟨hx, hb, hml, hown, hts⟩ (mX12_thrown (E := xEM D aX aM cA g ao cL σX1 (xou fo o)) rfl σM1 (σM1 0 0) σM1 (show fX12_thrown σM1 = some (σM1 0 0, σM1) from rfl) H.size) (cwV 0 hts gL_law_X12_thrown rfl rfl rfl (by decide +kernel) ⟨Nat.le_of_ble_eq_true rfl, Nat.le_of_ble_eq_true rfl⟩) (x_preV _ hwm hA hG (cM0 rfl) rfl) rfl rfl hl.1 rfl (lv_room (Nat.le_of_ble_eq_true rfl)) dL_law_2754 ⟨by show cells + 1 + 0 ≤ 601024; omega, by show slots + 6 + 0 ≤ 7293034; omega⟩) hwm hA (fun H locs hwm => ?_)
  have hw := xwX hw.1 hwm
  refine lv_iload hx hb dL_law_2757 (lv_at hl 1 rfl) ?_
  refine lv_icmp_eq (tgt := 2764) hx hb dL_law_2759 (by decide) (fun _ => ?_) (fun h9 => absurd hth h9)
  refine lv_iload hx hb dL_law_2764 (lv_at hl 1 rfl) ?_
  cases o with
  | inl v =>
    · refine lv_if_ne (tgt := 2781) hx hb dL_law_2766 (by decide) (fun h9 => absurd rfl h9) (fun _ => ?_)
      refine lv_aload_n hx hb dL_law_2769 rfl (lv_at hl 5 rfl) ?_
      refine lv_iconst (v := 0) hx hb dL_law_2770 (by decide) ?_
      refine x_wlald hx hb hw dL_law_2771 ?_
      refine lv_iload hx hb dL_law_2772 (lv_at hl 0 rfl) ?_
      refine lv_i2l hx hb dL_law_2774 rfl ?_
      refine W.lcmp hx hb dL_law_2775 ?_
      refine lv_if_eq (tgt := 2781) hx hb dL_law_2776 (by decide) (fun _ => ?_) (fun h9 => absurd ((lg_cmp_eq _ _).mpr (by rw [ha v rfl]; rfl)) h9)
      refine lv_goto (tgt := 2908) hx hb dL_law_2781 (by decide) ?_
      refine W.widen (k := cells + 20) (n := slots + 120) (by omega) (by omega) ?_
      exact kk _ _ _ hw (lv_sub hl [2, 3, 4, 5, 6] rfl)
  | inr k =>
    · refine lv_if_ne (tgt := 2781) hx hb dL_law_2766 (by decide) (fun _ => ?_) (fun h9 => absurd h9 (xcd_ne (by decide) (by decide) (by decide) (by decide)))
      refine lv_goto (tgt := 2908) hx hb dL_law_2781 (by decide) ?_
      refine W.widen (k := cells + 20) (n := slots + 120) (by omega) (by omega) ?_
      exact kk _ _ _ hw (lv_sub hl [2, 3, 4, 5, 6] rfl)

set_option maxRecDepth 100000 in
set_option maxHeartbeats 4000000 in
theorem lawc_43 {p : Program} {l : Launch} {e : Env} {t : State} {m : MethodId} {args : Array Value} {below : List Frame} {meth : Method} {c : Code} {Q : State → Prop} {H : Heap} {locs : List Loc} {cells slots b L n : Nat} {xs : Nat → Int32} {A : Nat → Prop} {D : va_G} {aX aM : Nat → Nat} {cA cL : ClassId} {ao : Nat} {g : Nat × Nat × (Nat → Nat)} {σX σM : xSt} {fo : Nat → Int64} {ls : Array Slot} (hl0 : l.stackTraces = false) (Cx : xLC p t m args c b L n xs A g) (hw : xwW (xEX D aX aM cA g σM) ao cL A t.heap t σX fo H locs) (hl : lv_has ls 9 (xLl b (aX 0) (aM 0) ao (nI (6 * n)))) (hcs : cells + 20 ≤ 601024 ∧ slots + 120 ≤ 7293034) (v9 b9 : Int32) (σX1 σM1 : xSt) (hfX : fX11_actCount σX = some (v9, σX1)) (hfM : fX12_actCount σM = some (b9, σM1)) (heq : v9 = b9) (kk : ∀ (H : Heap) (locs : List Loc) (ls : Array Slot), xwW (xEX D aX aM cA g σM1) ao cL A t.heap t σX1 fo H locs → lv_has ls 9 (xLl b (aX 0) (aM 0) ao (nI (6 * n))) → W p l e room_1 t m args below meth c H locs (cells + 20) (slots + 120) Q (F0 m 2908 ls [])) : W p l e room_1 t m args below meth c H locs cells slots Q (F0 m 2784 ls []) := by
  obtain ⟨hx, hb, hml, hown, hts, hXs, hbl, hn, hA, hbA, hG, hN⟩ := id Cx
  refine lv_aload_n hx hb dL_law_2784 rfl (lv_at hl 1 rfl) ?_
  refine x_calli (va_runV (As := []) (rest := []) ⟨hx, hb, hml, hown, hts⟩ (mX11_actCount (E := xEO (xEX D aX aM cA g σM) ao cL fo) rfl σX v9 σX1 hfX H.size) (cwV 0 hts gL_law_X11_actCount rfl rfl rfl (by decide +kernel) ⟨Nat.le_of_ble_eq_true rfl, Nat.le_of_ble_eq_true rfl⟩) (x_preV _ hw.in hA hG (cX0 rfl) rfl) rfl rfl hl.1 rfl (lv_room (Nat.le_of_ble_eq_true rfl)) dL_law_2785 ⟨by show cells + 0 ≤ 601024; omega, by show slots + 0 ≤ 7293034; omega⟩) hw.in hA (fun H locs hw9 => ?_)
  have hw := xwW.of hw.1 hw9
  refine lv_aload_n hx hb dL_law_2788 rfl (lv_at hl 2 rfl) ?_
  have hwm := xwM hw
  refine x_calli (va_runV (As := []) (rest := [.int v9]) ⟨hx, hb, hml, hown, hts⟩ (mX12_actCount (E := xEM D aX aM cA g ao cL σX1 fo) rfl σM b9 σM1 hfM H.size) (cwV 0 hts gL_law_X12_actCount rfl rfl rfl (by decide +kernel) ⟨Nat.le_of_ble_eq_true rfl, Nat.le_of_ble_eq_true rfl⟩) (x_preV _ hwm hA hG (cM0 rfl) rfl) rfl rfl hl.1 rfl (lv_room (Nat.le_of_ble_eq_true rfl)) dL_law_2789 ⟨by show cells + 0 ≤ 601024; omega, by show slots + 0 ≤ 7293034; omega⟩) hwm hA (fun H locs hwm => ?_)
  have hw := xwX hw.1 hwm
  refine lv_icmp_eq (tgt := 2908) hx hb dL_law_2792 (by decide) (fun _ => ?_) (fun h9 => absurd heq h9)
  refine W.widen (k := cells + 20) (n := slots + 120) (by omega) (by omega) ?_
  exact kk _ _ _ hw (lv_sub hl [0, 1, 2, 3, 4] rfl)

set_option maxRecDepth 100000 in
set_option maxHeartbeats 4000000 in
theorem lawc_46 {p : Program} {l : Launch} {e : Env} {t : State} {m : MethodId} {args : Array Value} {below : List Frame} {meth : Method} {c : Code} {Q : State → Prop} {H : Heap} {locs : List Loc} {cells slots b L n : Nat} {xs : Nat → Int32} {A : Nat → Prop} {D : va_G} {aX aM : Nat → Nat} {cA cL : ClassId} {ao : Nat} {g : Nat × Nat × (Nat → Nat)} {σX σM : xSt} {fo : Nat → Int64} {ls : Array Slot} (hl0 : l.stackTraces = false) (Cx : xLC p t m args c b L n xs A g) (hw : xwW (xEX D aX aM cA g σM) ao cL A t.heap t σX fo H locs) (hl : lv_has ls 9 (xLl b (aX 0) (aM 0) ao (nI (6 * n)))) (hcs : cells + 20 ≤ 601024 ∧ slots + 120 ≤ 7293034) (v9 b9 : Int64) (σX1 σM1 : xSt) (hfX : fX11_checksum σX = some (v9, σX1)) (hfM : fX12_checksum σM = some (b9, σM1)) (heq : v9 = b9) (kk : ∀ (H : Heap) (locs : List Loc) (ls : Array Slot), xwW (xEX D aX aM cA g σM1) ao cL A t.heap t σX1 fo H locs → lv_has ls 9 (xLl b (aX 0) (aM 0) ao (nI (6 * n))) → W p l e room_1 t m args below meth c H locs (cells + 20) (slots + 120) Q (F0 m 2908 ls [])) : W p l e room_1 t m args below meth c H locs cells slots Q (F0 m 2881 ls []) := by
  obtain ⟨hx, hb, hml, hown, hts, hXs, hbl, hn, hA, hbA, hG, hN⟩ := id Cx
  refine lv_aload_n hx hb dL_law_2881 rfl (lv_at hl 1 rfl) ?_
  refine x_calll (va_runV (As := []) (rest := []) ⟨hx, hb, hml, hown, hts⟩ (mX11_checksum (E := xEO (xEX D aX aM cA g σM) ao cL fo) rfl σX v9 σX1 hfX H.size) (cwV 0 hts gL_law_X11_checksum rfl rfl rfl (by decide +kernel) ⟨Nat.le_of_ble_eq_true rfl, Nat.le_of_ble_eq_true rfl⟩) (x_preV _ hw.in hA hG (cX0 rfl) rfl) rfl rfl hl.1 rfl (lv_room (Nat.le_of_ble_eq_true rfl)) dL_law_2882 ⟨by show cells + 0 ≤ 601024; omega, by show slots + 0 ≤ 7293034; omega⟩) hw.in hA (fun H locs hw9 => ?_)
  have hw := xwW.of hw.1 hw9
  refine lv_aload_n hx hb dL_law_2885 rfl (lv_at hl 2 rfl) ?_
  have hwm := xwM hw
  refine x_calll (va_runV (As := []) (rest := [.long v9]) ⟨hx, hb, hml, hown, hts⟩ (mX12_checksum (E := xEM D aX aM cA g ao cL σX1 fo) rfl σM b9 σM1 hfM H.size) (cwV 0 hts gL_law_X12_checksum rfl rfl rfl (by decide +kernel) ⟨Nat.le_of_ble_eq_true rfl, Nat.le_of_ble_eq_true rfl⟩) (x_preV _ hwm hA hG (cM0 rfl) rfl) rfl rfl hl.1 rfl (lv_room (Nat.le_of_ble_eq_true rfl)) dL_law_2886 ⟨by show cells + 0 ≤ 601024; omega, by show slots + 0 ≤ 7293034; omega⟩) hwm hA (fun H locs hwm => ?_)
  have hw := xwX hw.1 hwm
  refine W.lcmp hx hb dL_law_2889 ?_
  refine lv_if_eq (tgt := 2908) hx hb dL_law_2890 (by decide) (fun _ => ?_) (fun h9 => absurd ((lg_cmp_eq _ _).mpr heq) h9)
  refine W.widen (k := cells + 20) (n := slots + 120) (by omega) (by omega) ?_
  exact kk _ _ _ hw (lv_sub hl [0, 1, 2, 3, 4] rfl)

set_option maxRecDepth 100000 in
set_option maxHeartbeats 4000000 in
theorem lawc_47 {p : Program} {l : Launch} {e : Env} {t : State} {m : MethodId} {args : Array Value} {below : List Frame} {meth : Method} {c : Code} {Q : State → Prop} {H : Heap} {locs : List Loc} {cells slots b L n : Nat} {xs : Nat → Int32} {A : Nat → Prop} {D : va_G} {aX aM : Nat → Nat} {cA cL : ClassId} {ao : Nat} {g : Nat × Nat × (Nat → Nat)} {σX σM : xSt} {fo : Nat → Int64} {ls : Array Slot} (hl0 : l.stackTraces = false) (Cx : xLC p t m args c b L n xs A g) (hw : xwW (xEX D aX aM cA g σM) ao cL A t.heap t σX fo H locs) (hl : lv_has ls 9 (xLl b (aX 0) (aM 0) ao (nI (6 * n)))) (hcs : cells + 20 ≤ 601024 ∧ slots + 120 ≤ 7293034) (v9 b9 : Int32) (σX1 σM1 : xSt) (hfX : fX11_errors σX = some (v9, σX1)) (hfM : fX12_errors σM = some (b9, σM1)) (heq : v9 = b9) (kk : ∀ (H : Heap) (locs : List Loc) (ls : Array Slot), xwW (xEX D aX aM cA g σM1) ao cL A t.heap t σX1 fo H locs → lv_has ls 9 (xLl b (aX 0) (aM 0) ao (nI (6 * n))) → W p l e room_1 t m args below meth c H locs (cells + 20) (slots + 120) Q (F0 m 2908 ls [])) : W p l e room_1 t m args below meth c H locs cells slots Q (F0 m 2895 ls []) := by
  obtain ⟨hx, hb, hml, hown, hts, hXs, hbl, hn, hA, hbA, hG, hN⟩ := id Cx
  refine lv_aload_n hx hb dL_law_2895 rfl (lv_at hl 1 rfl) ?_
  refine x_calli (va_runV (As := []) (rest := []) ⟨hx, hb, hml, hown, hts⟩ (mX11_errors (E := xEO (xEX D aX aM cA g σM) ao cL fo) rfl σX v9 σX1 hfX H.size) (cwV 0 hts gL_law_X11_errors rfl rfl rfl (by decide +kernel) ⟨Nat.le_of_ble_eq_true rfl, Nat.le_of_ble_eq_true rfl⟩) (x_preV _ hw.in hA hG (cX0 rfl) rfl) rfl rfl hl.1 rfl (lv_room (Nat.le_of_ble_eq_true rfl)) dL_law_2896 ⟨by show cells + 0 ≤ 601024; omega, by show slots + 0 ≤ 7293034; omega⟩) hw.in hA (fun H locs hw9 => ?_)
  have hw := xwW.of hw.1 hw9
  refine lv_aload_n hx hb dL_law_2899 rfl (lv_at hl 2 rfl) ?_
  have hwm := xwM hw
  refine x_calli (va_runV (As := []) (rest := [.int v9]) ⟨hx, hb, hml, hown, hts⟩ (mX12_errors (E := xEM D aX aM cA g ao cL σX1 fo) rfl σM b9 σM1 hfM H.size) (cwV 0 hts gL_law_X12_errors rfl rfl rfl (by decide +kernel) ⟨Nat.le_of_ble_eq_true rfl, Nat.le_of_ble_eq_true rfl⟩) (x_preV _ hwm hA hG (cM0 rfl) rfl) rfl rfl hl.1 rfl (lv_room (Nat.le_of_ble_eq_true rfl)) dL_law_2900 ⟨by show cells + 0 ≤ 601024; omega, by show slots + 0 ≤ 7293034; omega⟩) hwm hA (fun H locs hwm => ?_)
  have hw := xwX hw.1 hwm
  refine lv_icmp_eq (tgt := 2908) hx hb dL_law_2903 (by decide) (fun _ => ?_) (fun h9 => absurd heq h9)
  refine W.widen (k := cells + 20) (n := slots + 120) (by omega) (by omega) ?_
  exact kk _ _ _ hw (lv_sub hl [0, 1, 2, 3, 4] rfl)
