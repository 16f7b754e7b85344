set_option maxRecDepth 100000 in
set_option maxHeartbeats 4000000 in
theorem lawc_16 {p : Program} {l : Launch} {e : Env} {t : State} {m : MethodId} {args : Array Value} {below : List Frame} {meth : Method} {c : Code} {Q : State → Prop} {H : Heap} {locs : List Loc} {cells slots b L n : Nat} {xs : Nat → Int32} {A : Nat → Prop} {D : va_G} {aX aM : Nat → Nat} {cA cL : ClassId} {ao : Nat} {g : Nat × Nat × (Nat → Nat)} {σX σM : xSt} {fo : Nat → Int64} {ls : Array Slot} (hl0 : l.stackTraces = false) (Cx : xLC p t m args c b L n xs A g) (hw : xwW (xEX D aX aM cA g σM) ao cL A t.heap t σX fo H locs) (hl : lv_has ls 9 (xLl b (aX 0) (aM 0) ao (nI (6 * n)))) (hcs : cells + 20 ≤ 601024 ∧ slots + 120 ≤ 7293034) (o : xO) (b9 : Int32) (σX1 σM1 : xSt) (hfX : fX11_setHeat (xs (6 * n + 1)) σX = some (o, σX1)) (hk : ∀ k, o = .inr k → k = 1) (hfM : fX12_setHeat (xs (6 * n + 1)) σM = some (b9, σM1)) (hth : σM1 0 0 = xcd 9 1 9 9 o) (ha : ∀ v, o = .inl v → v = b9) (kk : ∀ (H : Heap) (locs : List Loc) (ls : Array Slot), xwW (xEX D aX aM cA g σM1) ao cL A t.heap t σX1 (xou fo o) H locs → lv_has ls 9 (xLl b (aX 0) (aM 0) ao (nI (6 * n))) → W p l e room_1 t m args below meth c H locs (cells + 20) (slots + 120) Q (F0 m 2908 ls [])) : W p l e room_1 t m args below meth c H locs cells slots Q (F0 m 1159 ls []) := by
  obtain ⟨hx, hb, hml, hown, hts, hXs, hbl, hn, hA, hbA, hG, hN⟩ := id Cx
  refine lv_aload_n hx hb dL_law_1159 rfl (lv_at hl 1 rfl) ?_
  refine x_arg Cx hw.2.2.2 (lv_at hl 0 rfl) (lv_at hl 4 rfl) (k := 1) (by decide) (kv := 1) (by decide) dL_law_1160 dL_law_1161 (fun h9 => lv_iconst (v := 1) hx hb dL_law_1163 (by decide) h9) dL_law_1164 dL_law_1165 ?_
  refine lv_aload_n hx hb dL_law_1166 rfl (lv_at hl 3 rfl) ?_
  refine x_wcalli (vx_runSX (hh := [(0, 9, 12, 15)]) (As := [.ref (aX 0), .int (xs (6 * n + 1)), .ref ao]) (rest := []) ⟨hx, hb, hml, hown, hts⟩ (mL_setHeat hl0 (E := xEX D aX aM cA g σM) rfl ao cL (xs (6 * n + 1)) σX fo o σX1 hfX hk H.size) (vx_cwSW 3 hts gL_law_L_setHeat rfl rfl rfl (by decide +kernel) ⟨Nat.le_of_ble_eq_true rfl, Nat.le_of_ble_eq_true rfl⟩) (x_preW _ hw hA hG hN) rfl rfl hl.1 rfl (lv_room (Nat.le_of_ble_eq_true rfl)) dL_law_1167 ⟨by show cells + 1 ≤ 601024; omega, by show slots + 6 ≤ 7293034; omega⟩) hw hA (fun H locs hw => ?_)
  refine lv_istore (lv' := [(5, .int (xcd 9 1 9 9 o)), (0, .ref b), (1, .ref (aX 0)), (2, .ref (aM 0)), (3, .ref ao), (4, .int (nI (6 * n)))]) hx hb dL_law_1170 hl (by decide) rfl (fun ls hl => ?_)
  refine lv_aload_n hx hb dL_law_1172 rfl (lv_at hl 3 rfl) ?_
  refine x_arg Cx hw.2.2.2 (lv_at hl 1 rfl) (lv_at hl 5 rfl) (k := 1) (by decide) (kv := 1) (by decide) dL_law_1173 dL_law_1174 (fun h9 => lv_iconst (v := 1) hx hb dL_law_1176 (by decide) h9) dL_law_1177 dL_law_1178 ?_
  have hwm := xwM hw
  refine x_calli (va_runV (As := [.int (xs (6 * n + 1))]) (rest := []) ⟨hx, hb, hml, hown, hts⟩ (mX12_setHeat (E := xEM D aX aM cA g ao cL σX1 (xou fo o)) rfl (xs (6 * n + 1)) σM b9 σM1 hfM H.size) (cwV 1 hts gL_law_X12_setHeat rfl rfl rfl (by decide +kernel) ⟨Nat.le_of_ble_eq_true rfl, Nat.le_of_ble_eq_true rfl⟩) (x_preV _ hwm hA hG (cM0 rfl) rfl) rfl rfl hl.1 rfl (lv_room (Nat.le_of_ble_eq_true rfl)) dL_law_1179 ⟨by show cells + 1 + 0 ≤ 601024; omega, by show slots + 6 + 0 ≤ 7293034; omega⟩) hwm hA (fun H locs hwm => ?_)
  have hw := xwX hw.1 hwm
  refine lv_istore (lv' := [(6, .int b9), (5, .int (xcd 9 1 9 9 o)), (0, .ref b), (1, .ref (aX 0)), (2, .ref (aM 0)), (3, .ref ao), (4, .int (nI (6 * n)))]) hx hb dL_law_1182 hl (by decide) rfl (fun ls hl => ?_)
  refine lv_aload_n hx hb dL_law_1184 rfl (lv_at hl 4 rfl) ?_
  have hwm := xwM hw
  refine x_calli (va_runV (As := []) (rest := []) ⟨hx, hb, hml, hown, hts⟩ (mX12_thrown (E := xEM D aX aM cA g ao cL σX1 (xou fo o)) rfl σM1 (σM1 0 0) σM1 (show fX12_thrown σM1 = some (σM1 0 0, σM1) from rfl) H.size) (cwV 0 hts gL_law_X12_thrown rfl rfl rfl (by decide +kernel) ⟨Nat.le_of_ble_eq_true rfl, Nat.le_of_ble_eq_true rfl⟩) (x_preV _ hwm hA hG (cM0 rfl) rfl) rfl rfl hl.1 rfl (lv_room (Nat.le_of_ble_eq_true rfl)) dL_law_1185 ⟨by show cells + 1 + 0 ≤ 601024; omega, by show slots + 6 + 0 ≤ 7293034; omega⟩) hwm hA (fun H locs hwm => ?_)
  have hw := xwX hw.1 hwm
  refine lv_iload hx hb dL_law_1188 (lv_at hl 1 rfl) ?_
  refine lv_icmp_eq (tgt := 1195) hx hb dL_law_1190 (by decide) (fun _ => ?_) (fun h9 => absurd hth h9)
  refine lv_iload hx hb dL_law_1195 (lv_at hl 1 rfl) ?_
  cases o with
  | inl v =>
    · refine lv_if_ne (tgt := 1212) hx hb dL_law_1197 (by decide) (fun h9 => absurd rfl h9) (fun _ => ?_)
      refine lv_aload_n hx hb dL_law_1200 rfl (lv_at hl 5 rfl) ?_
      refine lv_iconst (v := 0) hx hb dL_law_1201 (by decide) ?_
      refine x_wlald hx hb hw dL_law_1202 ?_
      refine lv_iload hx hb dL_law_1203 (lv_at hl 0 rfl) ?_
      refine lv_i2l hx hb dL_law_1205 rfl ?_
      refine W.lcmp hx hb dL_law_1206 ?_
      refine lv_if_eq (tgt := 1212) hx hb dL_law_1207 (by decide) (fun _ => ?_) (fun h9 => absurd ((lg_cmp_eq _ _).mpr (by rw [ha v rfl]; rfl)) h9)
      refine lv_goto (tgt := 2908) hx hb dL_law_1212 (by decide) ?_
      refine W.widen (k := cells + 20) (n := slots + 120) (by omega) (by omega) ?_
      exact kk _ _ _ hw (lv_sub hl [2, 3, 4, 5, 6] rfl)
  | inr k =>
    · refine lv_if_ne (tgt := 1212) hx hb dL_law_1197 (by decide) (fun _ => ?_) (fun h9 => absurd h9 (xcd_ne (by decide) (by decide) (by decide) (by decide)))
      refine lv_goto (tgt := 2908) hx hb dL_law_1212 (by decide) ?_
      refine W.widen (k := cells + 20) (n := slots + 120) (by omega) (by omega) ?_
      exact kk _ _ _ hw (lv_sub hl [2, 3, 4, 5, 6] rfl)

set_option maxRecDepth 100000 in
set_option maxHeartbeats 4000000 in
theorem lawc_17 {p : Program} {l : Launch} {e : Env} {t : State} {m : MethodId} {args : Array Value} {below : List Frame} {meth : Method} {c : Code} {Q : State → Prop} {H : Heap} {locs : List Loc} {cells slots b L n : Nat} {xs : Nat → Int32} {A : Nat → Prop} {D : va_G} {aX aM : Nat → Nat} {cA cL : ClassId} {ao : Nat} {g : Nat × Nat × (Nat → Nat)} {σX σM : xSt} {fo : Nat → Int64} {ls : Array Slot} (hl0 : l.stackTraces = false) (Cx : xLC p t m args c b L n xs A g) (hw : xwW (xEX D aX aM cA g σM) ao cL A t.heap t σX fo H locs) (hl : lv_has ls 9 (xLl b (aX 0) (aM 0) ao (nI (6 * n)))) (hcs : cells + 20 ≤ 601024 ∧ slots + 120 ≤ 7293034) (v9 b9 : Int32) (σX1 σM1 : xSt) (hfX : fX11_heat σX = some (v9, σX1)) (hfM : fX12_heat σM = some (b9, σM1)) (heq : v9 = b9) (kk : ∀ (H : Heap) (locs : List Loc) (ls : Array Slot), xwW (xEX D aX aM cA g σM1) ao cL A t.heap t σX1 fo H locs → lv_has ls 9 (xLl b (aX 0) (aM 0) ao (nI (6 * n))) → W p l e room_1 t m args below meth c H locs (cells + 20) (slots + 120) Q (F0 m 2908 ls [])) : W p l e room_1 t m args below meth c H locs cells slots Q (F0 m 1215 ls []) := by
  obtain ⟨hx, hb, hml, hown, hts, hXs, hbl, hn, hA, hbA, hG, hN⟩ := id Cx
  refine lv_aload_n hx hb dL_law_1215 rfl (lv_at hl 1 rfl) ?_
  refine x_calli (va_runV (As := []) (rest := []) ⟨hx, hb, hml, hown, hts⟩ (mX11_heat (E := xEO (xEX D aX aM cA g σM) ao cL fo) rfl σX v9 σX1 hfX H.size) (cwV 0 hts gL_law_X11_heat rfl rfl rfl (by decide +kernel) ⟨Nat.le_of_ble_eq_true rfl, Nat.le_of_ble_eq_true rfl⟩) (x_preV _ hw.in hA hG (cX0 rfl) rfl) rfl rfl hl.1 rfl (lv_room (Nat.le_of_ble_eq_true rfl)) dL_law_1216 ⟨by show cells + 0 ≤ 601024; omega, by show slots + 0 ≤ 7293034; omega⟩) hw.in hA (fun H locs hw9 => ?_)
  have hw := xwW.of hw.1 hw9
  refine lv_aload_n hx hb dL_law_1219 rfl (lv_at hl 2 rfl) ?_
  have hwm := xwM hw
  refine x_calli (va_runV (As := []) (rest := [.int v9]) ⟨hx, hb, hml, hown, hts⟩ (mX12_heat (E := xEM D aX aM cA g ao cL σX1 fo) rfl σM b9 σM1 hfM H.size) (cwV 0 hts gL_law_X12_heat rfl rfl rfl (by decide +kernel) ⟨Nat.le_of_ble_eq_true rfl, Nat.le_of_ble_eq_true rfl⟩) (x_preV _ hwm hA hG (cM0 rfl) rfl) rfl rfl hl.1 rfl (lv_room (Nat.le_of_ble_eq_true rfl)) dL_law_1220 ⟨by show cells + 0 ≤ 601024; omega, by show slots + 0 ≤ 7293034; omega⟩) hwm hA (fun H locs hwm => ?_)
  have hw := xwX hw.1 hwm
  refine lv_icmp_eq (tgt := 2908) hx hb dL_law_1223 (by decide) (fun _ => ?_) (fun h9 => absurd heq h9)
  refine W.widen (k := cells + 20) (n := slots + 120) (by omega) (by omega) ?_
  exact kk _ _ _ hw (lv_sub hl [0, 1, 2, 3, 4] rfl)

set_option maxRecDepth 100000 in
set_option maxHeartbeats 4000000 in
theorem lawc_18 {p : Program} {l : Launch} {e : Env} {t : State} {m : MethodId} {args : Array Value} {below : List Frame} {meth : Method} {c : Code} {Q : State → Prop} {H : Heap} {locs : List Loc} {cells slots b L n : Nat} {xs : Nat → Int32} {A : Nat → Prop} {D : va_G} {aX aM : Nat → Nat} {cA cL : ClassId} {ao : Nat} {g : Nat × Nat × (Nat → Nat)} {σX σM : xSt} {fo : Nat → Int64} {ls : Array Slot} (hl0 : l.stackTraces = false) (Cx : xLC p t m args c b L n xs A g) (hw : xwW (xEX D aX aM cA g σM) ao cL A t.heap t σX fo H locs) (hl : lv_has ls 9 (xLl b (aX 0) (aM 0) ao (nI (6 * n)))) (hcs : cells + 20 ≤ 601024 ∧ slots + 120 ≤ 7293034) (o : xO) (b9 : Int32) (σX1 σM1 : xSt) (hfX : fX11_setDecks (xs (6 * n + 1)) σX = some (o, σX1)) (hk : ∀ k, o = .inr k → k = 1) (hfM : fX12_setDecks (xs (6 * n + 1)) σM = some (b9, σM1)) (hth : σM1 0 0 = xcd 9 1 9 9 o) (ha : ∀ v, o = .inl v → v = b9) (kk : ∀ (H : Heap) (locs : List Loc) (ls : Array Slot), xwW (xEX D aX aM cA g σM1) ao cL A t.heap t σX1 (xou fo o) H locs → lv_has ls 9 (xLl b (aX 0) (aM 0) ao (nI (6 * n))) → W p l e room_1 t m args below meth c H locs (cells + 20) (slots + 120) Q (F0 m 2908 ls [])) : W p l e room_1 t m args below meth c H locs cells slots Q (F0 m 1228 ls []) := by
  obtain ⟨hx, hb, hml, hown, hts, hXs, hbl, hn, hA, hbA, hG, hN⟩ := id Cx
  refine lv_aload_n hx hb dL_law_1228 rfl (lv_at hl 1 rfl) ?_
  refine x_arg Cx hw.2.2.2 (lv_at hl 0 rfl) (lv_at hl 4 rfl) (k := 1) (by decide) (kv := 1) (by decide) dL_law_1229 dL_law_1230 (fun h9 => lv_iconst (v := 1) hx hb dL_law_1232 (by decide) h9) dL_law_1233 dL_law_1234 ?_
  refine lv_aload_n hx hb dL_law_1235 rfl (lv_at hl 3 rfl) ?_
  refine x_wcalli (vx_runSX (hh := [(0, 9, 12, 15)]) (As := [.ref (aX 0), .int (xs (6 * n + 1)), .ref ao]) (rest := []) ⟨hx, hb, hml, hown, hts⟩ (mL_setDecks hl0 (E := xEX D aX aM cA g σM) rfl ao cL (xs (6 * n + 1)) σX fo o σX1 hfX hk H.size) (vx_cwSW 3 hts gL_law_L_setDecks rfl rfl rfl (by decide +kernel) ⟨Nat.le_of_ble_eq_true rfl, Nat.le_of_ble_eq_true rfl⟩) (x_preW _ hw hA hG hN) rfl rfl hl.1 rfl (lv_room (Nat.le_of_ble_eq_true rfl)) dL_law_1236 ⟨by show cells + 1 ≤ 601024; omega, by show slots + 6 ≤ 7293034; omega⟩) hw hA (fun H locs hw => ?_)
  refine lv_istore (lv' := [(5, .int (xcd 9 1 9 9 o)), (0, .ref b), (1, .ref (aX 0)), (2, .ref (aM 0)), (3, .ref ao), (4, .int (nI (6 * n)))]) hx hb dL_law_1239 hl (by decide) rfl (fun ls hl => ?_)
  refine lv_aload_n hx hb dL_law_1241 rfl (lv_at hl 3 rfl) ?_
  refine x_arg Cx hw.2.2.2 (lv_at hl 1 rfl) (lv_at hl 5 rfl) (k := 1) (by decide) (kv := 1) (by decide) dL_law_1242 dL_law_1243 (fun h9 => lv_iconst (v := 1) hx hb dL_law_1245 (by decide) h9) dL_law_1246 dL_law_1247 ?_
  have hwm := xwM hw
  refine x_calli (va_runV (As := [.int (xs (6 * n + 1))]) (rest := []) ⟨hx, hb, hml, hown, hts⟩ (mX12_setDecks (E := xEM D aX aM cA g ao cL σX1 (xou fo o)) rfl (xs (6 * n + 1)) σM b9 σM1 hfM H.size) (cwV 1 hts gL_law_X12_setDecks rfl rfl rfl (by decide +kernel) ⟨Nat.le_of_ble_eq_true rfl, Nat.le_of_ble_eq_true rfl⟩) (x_preV _ hwm hA hG (cM0 rfl) rfl) rfl rfl hl.1 rfl (lv_room (Nat.le_of_ble_eq_true rfl)) dL_law_1248 ⟨by show cells + 1 + 0 ≤ 601024; omega, by show slots + 6 + 0 ≤ 7293034; omega⟩) hwm hA (fun H locs hwm => ?_)
  have hw := xwX hw.1 hwm
  refine lv_istore (lv' := [(6, .int b9), (5, .int (xcd 9 1 9 9 o)), (0, .ref b), (1, .ref (aX 0)), (2, .ref (aM 0)), (3, .ref ao), (4, .int (nI (6 * n)))]) hx hb dL_law_1251 hl (by decide) rfl (fun ls hl => ?_)
  refine lv_aload_n hx hb dL_law_1253 rfl (lv_at hl 4 rfl) ?_
  have hwm := xwM hw
  refine x_calli (va_runV (As := []) (rest := []) ⟨hx, hb, hml, hown, hts⟩ (mX12_thrown (E := xEM D aX aM cA g ao cL σX1 (xou fo o)) rfl σM1 (σM1 0 0) σM1 (show fX12_thrown σM1 = some (σM1 0 0, σM1) from rfl) H.size) (cwV 0 hts gL_law_X12_thrown rfl rfl rfl (by decide +kernel) ⟨Nat.le_of_ble_eq_true rfl, Nat.le_of_ble_eq_true rfl⟩) (x_preV _ hwm hA hG (cM0 rfl) rfl) rfl rfl hl.1 rfl (lv_room (Nat.le_of_ble_eq_true rfl)) dL_law_1254 ⟨by show cells + 1 + 0 ≤ 601024; omega, by show slots + 6 + 0 ≤ 7293034; omega⟩) hwm hA (fun H locs hwm => ?_)
  have hw := xwX hw.1 hwm
  refine lv_iload hx hb dL_law_1257 (lv_at hl 1 rfl) ?_
  refine lv_icmp_eq (tgt := 1264) hx hb dL_law_1259 (by decide) (fun _ => ?_) (fun h9 => absurd hth h9)
  refine lv_iload hx hb dL_law_1264 (lv_at hl 1 rfl) ?_
  cases o with
  | inl v =>
    · refine lv_if_ne (tgt := 1281) hx hb dL_law_1266 (by decide) (fun h9 => absurd rfl h9) (fun _ => ?_)
      refine lv_aload_n hx hb dL_law_1269 rfl (lv_at hl 5 rfl) ?_
      refine lv_iconst (v := 0) hx hb dL_law_1270 (by decide) ?_
      refine x_wlald hx hb hw dL_law_1271 ?_
      refine lv_iload hx hb dL_law_1272 (lv_at hl 0 rfl) ?_
      refine lv_i2l hx hb dL_law_1274 rfl ?_
      refine W.lcmp hx hb dL_law_1275 ?_
      refine lv_if_eq (tgt := 1281) hx hb dL_law_1276 (by decide) (fun _ => ?_) (fun h9 => absurd ((lg_cmp_eq _ _).mpr (by rw [ha v rfl]; rfl)) h9)
      refine lv_goto (tgt := 2908) hx hb dL_law_1281 (by decide) ?_
      refine W.widen (k := cells + 20) (n := slots + 120) (by omega) (by omega) ?_
      exact kk _ _ _ hw (lv_sub hl [2, 3, 4, 5, 6] rfl)
  | inr k =>
    · refine lv_if_ne (tgt := 1281) hx hb dL_law_1266 (by decide) (fun _ => ?_) (fun h9 => absurd h9 (xcd_ne (by decide) (by decide) (by decide) (by decide)))
      refine lv_goto (tgt := 2908) hx hb dL_law_1281 (by decide) ?_
      refine W.widen (k := cells + 20) (n := slots + 120) (by omega) (by omega) ?_
      exact kk _ _ _ hw (lv_sub hl [2, 3, 4, 5, 6] rfl)

set_option maxRecDepth 100000 in
set_option maxHeartbeats 4000000 in
theorem lawc_19 {p : Program} {l : Launch} {e : Env} {t : State} {m : MethodId} {args : Array Value} {below : List Frame} {meth : Method} {c : Code} {Q : State → Prop} {H : Heap} {locs : List Loc} {cells slots b L n : Nat} {xs : Nat → Int32} {A : Nat → Prop} {D : va_G} {aX aM : Nat → Nat} {cA cL : ClassId} {ao : Nat} {g : Nat × Nat × (Nat → Nat)} {σX σM : xSt} {fo : Nat → Int64} {ls : Array Slot} (hl0 : l.stackTraces = false) (Cx : xLC p t m args c b L n xs A g) (hw : xwW (xEX D aX aM cA g σM) ao cL A t.heap t σX fo H locs) (hl : lv_has ls 9 (xLl b (aX 0) (aM 0) ao (nI (6 * n)))) (hcs : cells + 20 ≤ 601024 ∧ slots + 120 ≤ 7293034) (o : xO) (b9 : Int32) (σX1 σM1 : xSt) (hfX : fX11_bake (xs (6 * n + 1)) σX = some (o, σX1)) (hk : ∀ k, o = .inr k → k = 0 ∨ k = 2) (hfM : fX12_bake (xs (6 * n + 1)) σM = some (b9, σM1)) (hth : σM1 0 0 = xcd 1 9 2 9 o) (ha : ∀ v, o = .inl v → v = b9) (kk : ∀ (H : Heap) (locs : List Loc) (ls : Array Slot), xwW (xEX D aX aM cA g σM1) ao cL A t.heap t σX1 (xou fo o) H locs → lv_has ls 9 (xLl b (aX 0) (aM 0) ao (nI (6 * n))) → W p l e room_1 t m args below meth c H locs (cells + 20) (slots + 120) Q (F0 m 2908 ls [])) : W p l e room_1 t m args below meth c H locs cells slots Q (F0 m 1284 ls []) := by
  obtain ⟨hx, hb, hml, hown, hts, hXs, hbl, hn, hA, hbA, hG, hN⟩ := id Cx
  refine lv_aload_n hx hb dL_law_1284 rfl (lv_at hl 1 rfl) ?_
  refine x_arg Cx hw.2.2.2 (lv_at hl 0 rfl) (lv_at hl 4 rfl) (k := 1) (by decide) (kv := 1) (by decide) dL_law_1285 dL_law_1286 (fun h9 => lv_iconst (v := 1) hx hb dL_law_1288 (by decide) h9) dL_law_1289 dL_law_1290 ?_
  refine lv_aload_n hx hb dL_law_1291 rfl (lv_at hl 3 rfl) ?_
  refine x_wcalli (vx_runSX (hh := [(0, 9, 12, 13), (0, 9, 15, 17)]) (As := [.ref (aX 0), .int (xs (6 * n + 1)), .ref ao]) (rest := []) ⟨hx, hb, hml, hown, hts⟩ (mL_bake hl0 (E := xEX D aX aM cA g σM) rfl ao cL (xs (6 * n + 1)) σX fo o σX1 hfX hk H.size) (vx_cwSW 3 hts gL_law_L_bake rfl rfl rfl (by decide +kernel) ⟨Nat.le_of_ble_eq_true rfl, Nat.le_of_ble_eq_true rfl⟩) (x_preW _ hw hA hG hN) rfl rfl hl.1 rfl (lv_room (Nat.le_of_ble_eq_true rfl)) dL_law_1292 ⟨by show cells + 2 ≤ 601024; omega, by show slots + 12 ≤ 7293034; omega⟩) hw hA (fun H locs hw => ?_)
  refine lv_istore (lv' := [(5, .int (xcd 1 9 2 9 o)), (0, .ref b), (1, .ref (aX 0)), (2, .ref (aM 0)), (3, .ref ao), (4, .int (nI (6 * n)))]) hx hb dL_law_1295 hl (by decide) rfl (fun ls hl => ?_)
  refine lv_aload_n hx hb dL_law_1297 rfl (lv_at hl 3 rfl) ?_
  refine x_arg Cx hw.2.2.2 (lv_at hl 1 rfl) (lv_at hl 5 rfl) (k := 1) (by decide) (kv := 1) (by decide) dL_law_1298 dL_law_1299 (fun h9 => lv_iconst (v := 1) hx hb dL_law_1301 (by decide) h9) dL_law_1302 dL_law_1303 ?_
  have hwm := xwM hw
  refine x_calli (va_runV (As := [.int (xs (6 * n + 1))]) (rest := []) ⟨hx, hb, hml, hown, hts⟩ (mX12_bake (E := xEM D aX aM cA g ao cL σX1 (xou fo o)) rfl (xs (6 * n + 1)) σM b9 σM1 hfM H.size) (cwV 1 hts gL_law_X12_bake rfl rfl rfl (by decide +kernel) ⟨Nat.le_of_ble_eq_true rfl, Nat.le_of_ble_eq_true rfl⟩) (x_preV _ hwm hA hG (cM0 rfl) rfl) rfl rfl hl.1 rfl (lv_room (Nat.le_of_ble_eq_true rfl)) dL_law_1304 ⟨by show cells + 2 + 0 ≤ 601024; omega, by show slots + 12 + 0 ≤ 7293034; omega⟩) hwm hA (fun H locs hwm => ?_)
  have hw := xwX hw.1 hwm
  refine lv_istore (lv' := [(6, .int b9), (5, .int (xcd 1 9 2 9 o)), (0, .ref b), (1, .ref (aX 0)), (2, .ref (aM 0)), (3, .ref ao), (4, .int (nI (6 * n)))]) hx hb dL_law_1307 hl (by decide) rfl (fun ls hl => ?_)
  refine lv_aload_n hx hb dL_law_1309 rfl (lv_at hl 4 rfl) ?_
  have hwm := xwM hw
  refine x_calli (va_runV (As := []) (rest := []) ⟨hx, hb, hml, hown, hts⟩ (mX12_thrown (E := xEM D aX aM cA g ao cL σX1 (xou fo o)) rfl σM1 (σM1 0 0) σM1 (show fX12_thrown σM1 = some (σM1 0 0, σM1) from rfl) H.size) (cwV 0 hts gL_law_X12_thrown rfl rfl rfl (by decide +kernel) ⟨Nat.le_of_ble_eq_true rfl, Nat.le_of_ble_eq_true rfl⟩) (x_preV _ hwm hA hG (cM0 rfl) rfl) rfl rfl hl.1 rfl (lv_room (Nat.le_of_ble_eq_true rfl)) dL_law_1310 ⟨by show cells + 2 + 0 ≤ 601024; omega, by show slots + 12 + 0 ≤ 7293034; omega⟩) hwm hA (fun H locs hwm => ?_)
  have hw := xwX hw.1 hwm
  refine lv_iload hx hb dL_law_1313 (lv_at hl 1 rfl) ?_
  refine lv_icmp_eq (tgt := 1320) hx hb dL_law_1315 (by decide) (fun _ => ?_) (fun h9 => absurd hth h9)
  refine lv_iload hx hb dL_law_1320 (lv_at hl 1 rfl) ?_
  cases o with
  | inl v =>
    · refine lv_if_ne (tgt := 1337) hx hb dL_law_1322 (by decide) (fun h9 => absurd rfl h9) (fun _ => ?_)
      refine lv_aload_n hx hb dL_law_1325 rfl (lv_at hl 5 rfl) ?_
      refine lv_iconst (v := 0) hx hb dL_law_1326 (by decide) ?_
      refine x_wlald hx hb hw dL_law_1327 ?_
      refine lv_iload hx hb dL_law_1328 (lv_at hl 0 rfl) ?_
      refine lv_i2l hx hb dL_law_1330 rfl ?_
      refine W.lcmp hx hb dL_law_1331 ?_
      refine lv_if_eq (tgt := 1337) hx hb dL_law_1332 (by decide) (fun _ => ?_) (fun h9 => absurd ((lg_cmp_eq _ _).mpr (by rw [ha v rfl]; rfl)) h9)
      refine lv_goto (tgt := 2908) hx hb dL_law_1337 (by decide) ?_
      refine W.widen (k := cells + 20) (n := slots + 120) (by omega) (by omega) ?_
      exact kk _ _ _ hw (lv_sub hl [2, 3, 4, 5, 6] rfl)
  | inr k =>
    · refine lv_if_ne (tgt := 1337) hx hb dL_law_1322 (by decide) (fun _ => ?_) (fun h9 => absurd h9 (xcd_ne (by decide) (by decide) (by decide) (by decide)))
      refine lv_goto (tgt := 2908) hx hb dL_law_1337 (by decide) ?_
      refine W.widen (k := cells + 20) (n := slots + 120) (by omega) (by omega) ?_
      exact kk _ _ _ hw (lv_sub hl [2, 3, 4, 5, 6] rfl)

set_option maxRecDepth 100000 in
set_option maxHeartbeats 4000000 in
theorem lawc_20 {p : Program} {l : Launch} {e : Env} {t : State} {m : MethodId} {args : Array Value} {below : List Frame} {meth : Method} {c : Code} {Q : State → Prop} {H : Heap} {locs : List Loc} {cells slots b L n : Nat} {xs : Nat → Int32} {A : Nat → Prop} {D : va_G} {aX aM : Nat → Nat} {cA cL : ClassId} {ao : Nat} {g : Nat × Nat × (Nat → Nat)} {σX σM : xSt} {fo : Nat → Int64} {ls : Array Slot} (hl0 : l.stackTraces = false) (Cx : xLC p t m args c b L n xs A g) (hw : xwW (xEX D aX aM cA g σM) ao cL A t.heap t σX fo H locs) (hl : lv_has ls 9 (xLl b (aX 0) (aM 0) ao (nI (6 * n)))) (hcs : cells + 20 ≤ 601024 ∧ slots + 120 ≤ 7293034) (o : xO) (b9 : Int32) (σX1 σM1 : xSt) (hfX : fX11_planned (xs (6 * n + 1)) σX = some (o, σX1)) (hk : ∀ k, o = .inr k → k = 0) (hfM : fX12_planned (xs (6 * n + 1)) σM = some (b9, σM1)) (hth : σM1 0 0 = xcd 1 9 9 9 o) (ha : ∀ v, o = .inl v → v = b9) (kk : ∀ (H : Heap) (locs : List Loc) (ls : Array Slot), xwW (xEX D aX aM cA g σM1) ao cL A t.heap t σX1 (xou fo o) H locs → lv_has ls 9 (xLl b (aX 0) (aM 0) ao (nI (6 * n))) → W p l e room_1 t m args below meth c H locs (cells + 20) (slots + 120) Q (F0 m 2908 ls [])) : W p l e room_1 t m args below meth c H locs cells slots Q (F0 m 1340 ls []) := by
  obtain ⟨hx, hb, hml, hown, hts, hXs, hbl, hn, hA, hbA, hG, hN⟩ := id Cx
  refine lv_aload_n hx hb dL_law_1340 rfl (lv_at hl 1 rfl) ?_
  refine x_arg Cx hw.2.2.2 (lv_at hl 0 rfl) (lv_at hl 4 rfl) (k := 1) (by decide) (kv := 1) (by decide) dL_law_1341 dL_law_1342 (fun h9 => lv_iconst (v := 1) hx hb dL_law_1344 (by decide) h9) dL_law_1345 dL_law_1346 ?_
  refine lv_aload_n hx hb dL_law_1347 rfl (lv_at hl 3 rfl) ?_
  refine x_wcalli (vx_runSX (hh := [(0, 9, 12, 13)]) (As := [.ref (aX 0), .int (xs (6 * n + 1)), .ref ao]) (rest := []) ⟨hx, hb, hml, hown, hts⟩ (mL_planned hl0 (E := xEX D aX aM cA g σM) rfl ao cL (xs (6 * n + 1)) σX fo o σX1 hfX hk H.size) (vx_cwSW 3 hts gL_law_L_planned rfl rfl rfl (by decide +kernel) ⟨Nat.le_of_ble_eq_true rfl, Nat.le_of_ble_eq_true rfl⟩) (x_preW _ hw hA hG hN) rfl rfl hl.1 rfl (lv_room (Nat.le_of_ble_eq_true rfl)) dL_law_1348 ⟨by show cells + 1 ≤ 601024; omega, by show slots + 6 ≤ 7293034; omega⟩) hw hA (fun H locs hw => ?_)
  refine lv_istore (lv' := [(5, .int (xcd 1 9 9 9 o)), (0, .ref b), (1, .ref (aX 0)), (2, .ref (aM 0)), (3, .ref ao), (4, .int (nI (6 * n)))]) hx hb dL_law_1351 hl (by decide) rfl (fun ls hl => ?_)
  refine lv_aload_n hx hb dL_law_1353 rfl (lv_at hl 3 rfl) ?_
  refine x_arg Cx hw.2.2.2 (lv_at hl 1 rfl) (lv_at hl 5 rfl) (k := 1) (by decide) (kv := 1) (by decide) dL_law_1354 dL_law_1355 (fun h9 => lv_iconst (v := 1) hx hb dL_law_1357 (by decide) h9) dL_law_1358 dL_law_1359 ?_
  have hwm := xwM hw
  refine x_calli (va_runV (As := [.int (xs (6 * n + 1))]) (rest := []) ⟨hx, hb, hml, hown, hts⟩ (mX12_planned (E := xEM D aX aM cA g ao cL σX1 (xou fo o)) rfl (xs (6 * n + 1)) σM b9 σM1 hfM H.size) (cwV 1 hts gL_law_X12_planned rfl rfl rfl (by decide +kernel) ⟨Nat.le_of_ble_eq_true rfl, Nat.le_of_ble_eq_true rfl⟩) (x_preV _ hwm hA hG (cM0 rfl) rfl) rfl rfl hl.1 rfl (lv_room (Nat.le_of_ble_eq_true rfl)) dL_law_1360 ⟨by show cells + 1 + 0 ≤ 601024; omega, by show slots + 6 + 0 ≤ 7293034; omega⟩) hwm hA (fun H locs hwm => ?_)
  have hw := xwX hw.1 hwm
  refine lv_istore (lv' := [(6, .int b9), (5, .int (xcd 1 9 9 9 o)), (0, .ref b), (1, .ref (aX 0)), (2, .ref (aM 0)), (3, .ref ao), (4, .int (nI (6 * n)))]) hx hb dL_law_1363 hl (by decide) rfl (fun ls hl => ?_)
  refine lv_aload_n hx hb dL_law_1365 rfl (lv_at hl 4 rfl) ?_
  have hwm := xwM hw
  refine x_calli (va_runV (As := []) (rest := []) ⟨hx, hb, hml, hown, hts⟩ (mX12_thrown (E := xEM D aX aM cA g ao cL σX1 (xou fo o)) rfl σM1 (σM1 0 0) σM1 (show fX12_thrown σM1 = some (σM1 0 0, σM1) from rfl) H.size) (cwV 0 hts gL_law_X12_thrown rfl rfl rfl (by decide +kernel) ⟨Nat.le_of_ble_eq_true rfl, Nat.le_of_ble_eq_true rfl⟩) (x_preV _ hwm hA hG (cM0 rfl) rfl) rfl rfl hl.1 rfl (lv_room (Nat.le_of_ble_eq_true rfl)) dL_law_1366 ⟨by show cells + 1 + 0 ≤ 601024; omega, by show slots + 6 + 0 ≤ 7293034; omega⟩) hwm hA (fun H locs hwm => ?_)
  have hw := xwX hw.1 hwm
  refine lv_iload hx hb dL_law_1369 (lv_at hl 1 rfl) ?_
  refine lv_icmp_eq (tgt := 1376) hx hb dL_law_1371 (by decide) (fun _ => ?_) (fun h9 => absurd hth h9)
  refine lv_iload hx hb dL_law_1376 (lv_at hl 1 rfl) ?_
  cases o with
  | inl v =>
    · refine lv_if_ne (tgt := 1393) hx hb dL_law_1378 (by decide) (fun h9 => absurd rfl h9) (fun _ => ?_)
      refine lv_aload_n hx hb dL_law_1381 rfl (lv_at hl 5 rfl) ?_
      refine lv_iconst (v := 0) hx hb dL_law_1382 (by decide) ?_
      refine x_wlald hx hb hw dL_law_1383 ?_
      refine lv_iload hx hb dL_law_1384 (lv_at hl 0 rfl) ?_
      refine lv_i2l hx hb dL_law_1386 rfl ?_
      refine W.lcmp hx hb dL_law_1387 ?_
      refine lv_if_eq (tgt := 1393) hx hb dL_law_1388 (by decide) (fun _ => ?_) (fun h9 => absurd ((lg_cmp_eq _ _).mpr (by rw [ha v rfl]; rfl)) h9)
      refine lv_goto (tgt := 2908) hx hb dL_law_1393 (by decide) ?_
      refine W.widen (k := cells + 20) (n := slots + 120) (by omega) (by omega) ?_
      exact kk _ _ _ hw (lv_sub hl [2, 3, 4, 5, 6] rfl)
  | inr k =>
    · refine lv_if_ne (tgt := 1393) hx hb dL_law_1378 (by decide) (fun _ => ?_) (fun h9 => absurd h9 (xcd_ne (by decide) (by decide) (by decide) (by decide)))
      refine lv_goto (tgt := 2908) hx hb dL_law_1393 (by decide) ?_
      refine W.widen (k := cells + 20) (n := slots + 120) (by omega) (by omega) ?_
      exact kk _ _ _ hw (lv_sub hl [2, 3, 4, 5, 6] rfl)

set_option maxRecDepth 100000 in
set_option maxHeartbeats 4000000 in
theorem lawc_21 {p : Program} {l : Launch} {e : Env} {t : State} {m : MethodId} {args : Array Value} {below : List Frame} {meth : Method} {c : Code} {Q : State → Prop} {H : Heap} {locs : List Loc} {cells slots b L n : Nat} {xs : Nat → Int32} {A : Nat → Prop} {D : va_G} {aX aM : Nat → Nat} {cA cL : ClassId} {ao : Nat} {g : Nat × Nat × (Nat → Nat)} {σX σM : xSt} {fo : Nat → Int64} {ls : Array Slot} (hl0 : l.stackTraces = false) (Cx : xLC p t m args c b L n xs A g) (hw : xwW (xEX D aX aM cA g σM) ao cL A t.heap t σX fo H locs) (hl : lv_has ls 9 (xLl b (aX 0) (aM 0) ao (nI (6 * n)))) (hcs : cells + 20 ≤ 601024 ∧ slots + 120 ≤ 7293034) (v9 b9 : Int32) (σX1 σM1 : xSt) (hfX : fX11_inPlan σX = some (v9, σX1)) (hfM : fX12_inPlan σM = some (b9, σM1)) (heq : v9 = b9) (kk : ∀ (H : Heap) (locs : List Loc) (ls : Array Slot), xwW (xEX D aX aM cA g σM1) ao cL A t.heap t σX1 fo H locs → lv_has ls 9 (xLl b (aX 0) (aM 0) ao (nI (6 * n))) → W p l e room_1 t m args below meth c H locs (cells + 20) (slots + 120) Q (F0 m 2908 ls [])) : W p l e room_1 t m args below meth c H locs cells slots Q (F0 m 1396 ls []) := by
  obtain ⟨hx, hb, hml, hown, hts, hXs, hbl, hn, hA, hbA, hG, hN⟩ := id Cx
  refine lv_aload_n hx hb dL_law_1396 rfl (lv_at hl 1 rfl) ?_
  refine x_calli (va_runV (As := []) (rest := []) ⟨hx, hb, hml, hown, hts⟩ (mX11_inPlan (E := xEO (xEX D aX aM cA g σM) ao cL fo) rfl σX v9 σX1 hfX H.size) (cwV 0 hts gL_law_X11_inPlan rfl rfl rfl (by decide +kernel) ⟨Nat.le_of_ble_eq_true rfl, Nat.le_of_ble_eq_true rfl⟩) (x_preV _ hw.in hA hG (cX0 rfl) rfl) rfl rfl hl.1 rfl (lv_room (Nat.le_of_ble_eq_true rfl)) dL_law_1397 ⟨by show cells + 0 ≤ 601024; omega, by show slots + 0 ≤ 7293034; omega⟩) hw.in hA (fun H locs hw9 => ?_)
  have hw := xwW.of hw.1 hw9
  refine lv_aload_n hx hb dL_law_1400 rfl (lv_at hl 2 rfl) ?_
  have hwm := xwM hw
  refine x_calli (va_runV (As := []) (rest := [.int v9]) ⟨hx, hb, hml, hown, hts⟩ (mX12_inPlan (E := xEM D aX aM cA g ao cL σX1 fo) rfl σM b9 σM1 hfM H.size) (cwV 0 hts gL_law_X12_inPlan rfl rfl rfl (by decide +kernel) ⟨Nat.le_of_ble_eq_true rfl, Nat.le_of_ble_eq_true rfl⟩) (x_preV _ hwm hA hG (cM0 rfl) rfl) rfl rfl hl.1 rfl (lv_room (Nat.le_of_ble_eq_true rfl)) dL_law_1401 ⟨by show cells + 0 ≤ 601024; omega, by show slots + 0 ≤ 7293034; omega⟩) hwm hA (fun H locs hwm => ?_)
  have hw := xwX hw.1 hwm
  refine lv_icmp_eq (tgt := 2908) hx hb dL_law_1404 (by decide) (fun _ => ?_) (fun h9 => absurd heq h9)
  refine W.widen (k := cells + 20) (n := slots + 120) (by omega) (by omega) ?_
  exact kk _ _ _ hw (lv_sub hl [0, 1, 2, 3, 4] rfl)

set_option maxRecDepth 100000 in
set_option maxHeartbeats 4000000 in
theorem lawc_22 {p : Program} {l : Launch} {e : Env} {t : State} {m : MethodId} {args : Array Value} {below : List Frame} {meth : Method} {c : Code} {Q : State → Prop} {H : Heap} {locs : List Loc} {cells slots b L n : Nat} {xs : Nat → Int32} {A : Nat → Prop} {D : va_G} {aX aM : Nat → Nat} {cA cL : ClassId} {ao : Nat} {g : Nat × Nat × (Nat → Nat)} {σX σM : xSt} {fo : Nat → Int64} {ls : Array Slot} (hl0 : l.stackTraces = false) (Cx : xLC p t m args c b L n xs A g) (hw : xwW (xEX D aX aM cA g σM) ao cL A t.heap t σX fo H locs) (hl : lv_has ls 9 (xLl b (aX 0) (aM 0) ao (nI (6 * n)))) (hcs : cells + 20 ≤ 601024 ∧ slots + 120 ≤ 7293034) (v9 b9 : Int32) (σX1 σM1 : xSt) (hfX : fX11_late σX = some (v9, σX1)) (hfM : fX12_late σM = some (b9, σM1)) (heq : v9 = b9) (kk : ∀ (H : Heap) (locs : List Loc) (ls : Array Slot), xwW (xEX D aX aM cA g σM1) ao cL A t.heap t σX1 fo H locs → lv_has ls 9 (xLl b (aX 0) (aM 0) ao (nI (6 * n))) → W p l e room_1 t m args below meth c H locs (cells + 20) (slots + 120) Q (F0 m 2908 ls [])) : W p l e room_1 t m args below meth c H locs cells slots Q (F0 m 1409 ls []) := by
  obtain ⟨hx, hb, hml, hown, hts, hXs, hbl, hn, hA, hbA, hG, hN⟩ := id Cx
  refine lv_aload_n hx hb dL_law_1409 rfl (lv_at hl 1 rfl) ?_
  refine x_calli (va_runV (As := []) (rest := []) ⟨hx, hb, hml, hown, hts⟩ (mX11_late (E := xEO (xEX D aX aM cA g σM) ao cL fo) rfl σX v9 σX1 hfX H.size) (cwV 0 hts gL_law_X11_late rfl rfl rfl (by decide +kernel) ⟨Nat.le_of_ble_eq_true rfl, Nat.le_of_ble_eq_true rfl⟩) (x_preV _ hw.in hA hG (cX0 rfl) rfl) rfl rfl hl.1 rfl (lv_room (Nat.le_of_ble_eq_true rfl)) dL_law_1410 ⟨by show cells + 0 ≤ 601024; omega, by show slots + 0 ≤ 7293034; omega⟩) hw.in hA (fun H locs hw9 => ?_)
  have hw := xwW.of hw.1 hw9
  refine lv_aload_n hx hb dL_law_1413 rfl (lv_at hl 2 rfl) ?_
  have hwm := xwM hw
  refine x_calli (va_runV (As := []) (rest := [.int v9]) ⟨hx, hb, hml, hown, hts⟩ (mX12_late (E := xEM D aX aM cA g ao cL σX1 fo) rfl σM b9 σM1 hfM H.size) (cwV 0 hts gL_law_X12_late rfl rfl rfl (by decide +kernel) ⟨Nat.le_of_ble_eq_true rfl, Nat.le_of_ble_eq_true rfl⟩) (x_preV _ hwm hA hG (cM0 rfl) rfl) rfl rfl hl.1 rfl (lv_room (Nat.le_of_ble_eq_true rfl)) dL_law_1414 ⟨by show cells + 0 ≤ 601024; omega, by show slots + 0 ≤ 7293034; omega⟩) hwm hA (fun H locs hwm => ?_)
  have hw := xwX hw.1 hwm
  refine lv_icmp_eq (tgt := 2908) hx hb dL_law_1417 (by decide) (fun _ => ?_) (fun h9 => absurd heq h9)
  refine W.widen (k := cells + 20) (n := slots + 120) (by omega) (by omega) ?_
  exact kk _ _ _ hw (lv_sub hl [0, 1, 2, 3, 4] rfl)

set_option maxRecDepth 100000 in
set_option maxHeartbeats 4000000 in
theorem lawc_23 {p : Program} {l : Launch} {e : Env} {t : State} {m : MethodId} {args : Array Value} {below : List Frame} {meth : Method} {c : Code} {Q : State → Prop} {H : Heap} {locs : List Loc} {cells slots b L n : Nat} {xs : Nat → Int32} {A : Nat → Prop} {D : va_G} {aX aM : Nat → Nat} {cA cL : ClassId} {ao : Nat} {g : Nat × Nat × (Nat → Nat)} {σX σM : xSt} {fo : Nat → Int64} {ls : Array Slot} (hl0 : l.stackTraces = false) (Cx : xLC p t m args c b L n xs A g) (hw : xwW (xEX D aX aM cA g σM) ao cL A t.heap t σX fo H locs) (hl : lv_has ls 9 (xLl b (aX 0) (aM 0) ao (nI (6 * n)))) (hcs : cells + 20 ≤ 601024 ∧ slots + 120 ≤ 7293034) (o : xO) (b9 : Int32) (σX1 σM1 : xSt) (hfX : fX11_breads (xs (6 * n + 1)) (xs (6 * n + 2)) σX = some (o, σX1)) (hk : ∀ k, o = .inr k → k = 0 ∨ k = 1) (hfM : fX12_breads (xs (6 * n + 1)) (xs (6 * n + 2)) σM = some (b9, σM1)) (hth : σM1 0 0 = xcd 1 2 9 9 o) (ha : ∀ v, o = .inl v → v = b9) (kk : ∀ (H : Heap) (locs : List Loc) (ls : Array Slot), xwW (xEX D aX aM cA g σM1) ao cL A t.heap t σX1 (xou fo o) H locs → lv_has ls 9 (xLl b (aX 0) (aM 0) ao (nI (6 * n))) → W p l e room_1 t m args below meth c H locs (cells + 20) (slots + 120) Q (F0 m 2908 ls [])) : W p l e room_1 t m args below meth c H locs cells slots Q (F0 m 1422 ls []) := by
  obtain ⟨hx, hb, hml, hown, hts, hXs, hbl, hn, hA, hbA, hG, hN⟩ := id Cx
  refine lv_aload_n hx hb dL_law_1422 rfl (lv_at hl 1 rfl) ?_
  refine x_arg Cx hw.2.2.2 (lv_at hl 0 rfl) (lv_at hl 4 rfl) (k := 1) (by decide) (kv := 1) (by decide) dL_law_1423 dL_law_1424 (fun h9 => lv_iconst (v := 1) hx hb dL_law_1426 (by decide) h9) dL_law_1427 dL_law_1428 ?_
  refine x_arg Cx hw.2.2.2 (lv_at hl 0 rfl) (lv_at hl 4 rfl) (k := 2) (by decide) (kv := 2) (by decide) dL_law_1429 dL_law_1430 (fun h9 => lv_iconst (v := 2) hx hb dL_law_1432 (by decide) h9) dL_law_1433 dL_law_1434 ?_
  refine lv_aload_n hx hb dL_law_1435 rfl (lv_at hl 3 rfl) ?_
  refine x_wcalli (vx_runSX (hh := [(0, 10, 13, 13), (0, 10, 17, 15)]) (As := [.ref (aX 0), .int (xs (6 * n + 1)), .int (xs (6 * n + 2)), .ref ao]) (rest := []) ⟨hx, hb, hml, hown, hts⟩ (mL_breads hl0 (E := xEX D aX aM cA g σM) rfl ao cL (xs (6 * n + 1)) (xs (6 * n + 2)) σX fo o σX1 hfX hk H.size) (vx_cwSW 4 hts gL_law_L_breads rfl rfl rfl (by decide +kernel) ⟨Nat.le_of_ble_eq_true rfl, Nat.le_of_ble_eq_true rfl⟩) (x_preW _ hw hA hG hN) rfl rfl hl.1 rfl (lv_room (Nat.le_of_ble_eq_true rfl)) dL_law_1436 ⟨by show cells + 2 ≤ 601024; omega, by show slots + 12 ≤ 7293034; omega⟩) hw hA (fun H locs hw => ?_)
  refine lv_istore (lv' := [(5, .int (xcd 1 2 9 9 o)), (0, .ref b), (1, .ref (aX 0)), (2, .ref (aM 0)), (3, .ref ao), (4, .int (nI (6 * n)))]) hx hb dL_law_1439 hl (by decide) rfl (fun ls hl => ?_)
  refine lv_aload_n hx hb dL_law_1441 rfl (lv_at hl 3 rfl) ?_
  refine x_arg Cx hw.2.2.2 (lv_at hl 1 rfl) (lv_at hl 5 rfl) (k := 1) (by decide) (kv := 1) (by decide) dL_law_1442 dL_law_1443 (fun h9 => lv_iconst (v := 1) hx hb dL_law_1445 (by decide) h9) dL_law_1446 dL_law_1447 ?_
  refine x_arg Cx hw.2.2.2 (lv_at hl 1 rfl) (lv_at hl 5 rfl) (k := 2) (by decide) (kv := 2) (by decide) dL_law_1448 dL_law_1449 (fun h9 => lv_iconst (v := 2) hx hb dL_law_1451 (by decide) h9) dL_law_1452 dL_law_1453 ?_
  have hwm := xwM hw
  refine x_calli (va_runV (As := [.int (xs (6 * n + 1)), .int (xs (6 * n + 2))]) (rest := []) ⟨hx, hb, hml, hown, hts⟩ (mX12_breads (E := xEM D aX aM cA g ao cL σX1 (xou fo o)) rfl (xs (6 * n + 1)) (xs (6 * n + 2)) σM b9 σM1 hfM H.size) (cwV 2 hts gL_law_X12_breads rfl rfl rfl (by decide +kernel) ⟨Nat.le_of_ble_eq_true rfl, Nat.le_of_ble_eq_true rfl⟩) (x_preV _ hwm hA hG (cM0 rfl) rfl) rfl rfl hl.1 rfl (lv_room (Nat.le_of_ble_eq_true rfl)) dL_law_1454 ⟨by show cells + 2 + 0 ≤ 601024; omega, by show slots + 12 + 0 ≤ 7293034; omega⟩) hwm hA (fun H locs hwm => ?_)
  have hw := xwX hw.1 hwm
  refine lv_istore (lv' := [(6, .int b9), (5, .int (xcd 1 2 9 9 o)), (0, .ref b), (1, .ref (aX 0)), (2, .ref (aM 0)), (3, .ref ao), (4, .int (nI (6 * n)))]) hx hb dL_law_1457 hl (by decide) rfl (fun ls hl => ?_)
  refine lv_aload_n hx hb dL_law_1459 rfl (lv_at hl 4 rfl) ?_
  have hwm := xwM hw
  refine x_calli (va_runV (As := []) (rest := []) ⟨hx, hb, hml, hown, hts⟩ (mX12_thrown (E := xEM D aX aM cA g ao cL σX1 (xou fo o)) rfl σM1 (σM1 0 0) σM1 (show fX12_thrown σM1 = some (σM1 0 0, σM1) from rfl) H.size) (cwV 0 hts gL_law_X12_thrown rfl rfl rfl (by decide +kernel) ⟨Nat.le_of_ble_eq_true rfl, Nat.le_of_ble_eq_true rfl⟩) (x_preV _ hwm hA hG (cM0 rfl) rfl) rfl rfl hl.1 rfl (lv_room (Nat.le_of_ble_eq_true rfl)) dL_law_1460 ⟨by show cells + 2 + 0 ≤ 601024; omega, by show slots + 12 + 0 ≤ 7293034; omega⟩) hwm hA (fun H locs hwm => ?_)
  have hw := xwX hw.1 hwm
  refine lv_iload hx hb dL_law_1463 (lv_at hl 1 rfl) ?_
  refine lv_icmp_eq (tgt := 1470) hx hb dL_law_1465 (by decide) (fun _ => ?_) (fun h9 => absurd hth h9)
  refine lv_iload hx hb dL_law_1470 (lv_at hl 1 rfl) ?_
  cases o with
  | inl v =>
    · refine lv_if_ne (tgt := 1487) hx hb dL_law_1472 (by decide) (fun h9 => absurd rfl h9) (fun _ => ?_)
      refine lv_aload_n hx hb dL_law_1475 rfl (lv_at hl 5 rfl) ?_
      refine lv_iconst (v := 0) hx hb dL_law_1476 (by decide) ?_
      refine x_wlald hx hb hw dL_law_1477 ?_
      refine lv_iload hx hb dL_law_1478 (lv_at hl 0 rfl) ?_
      refine lv_i2l hx hb dL_law_1480 rfl ?_
      refine W.lcmp hx hb dL_law_1481 ?_
      refine lv_if_eq (tgt := 1487) hx hb dL_law_1482 (by decide) (fun _ => ?_) (fun h9 => absurd ((lg_cmp_eq _ _).mpr (by rw [ha v rfl]; rfl)) h9)
      refine lv_goto (tgt := 2908) hx hb dL_law_1487 (by decide) ?_
      refine W.widen (k := cells + 20) (n := slots + 120) (by omega) (by omega) ?_
      exact kk _ _ _ hw (lv_sub hl [2, 3, 4, 5, 6] rfl)
  | inr k =>
    · refine lv_if_ne (tgt := 1487) hx hb dL_law_1472 (by decide) (fun _ => ?_) (fun h9 => absurd h9 (xcd_ne (by decide) (by decide) (by decide) (by decide)))
      refine lv_goto (tgt := 2908) hx hb dL_law_1487 (by decide) ?_
      refine W.widen (k := cells + 20) (n := slots + 120) (by omega) (by omega) ?_
      exact kk _ _ _ hw (lv_sub hl [2, 3, 4, 5, 6] rfl)

set_option maxRecDepth 100000 in
set_option maxHeartbeats 4000000 in
theorem lawc_24 {p : Program} {l : Launch} {e : Env} {t : State} {m : MethodId} {args : Array Value} {below : List Frame} {meth : Method} {c : Code} {Q : State → Prop} {H : Heap} {locs : List Loc} {cells slots b L n : Nat} {xs : Nat → Int32} {A : Nat → Prop} {D : va_G} {aX aM : Nat → Nat} {cA cL : ClassId} {ao : Nat} {g : Nat × Nat × (Nat → Nat)} {σX σM : xSt} {fo : Nat → Int64} {ls : Array Slot} (hl0 : l.stackTraces = false) (Cx : xLC p t m args c b L n xs A g) (hw : xwW (xEX D aX aM cA g σM) ao cL A t.heap t σX fo H locs) (hl : lv_has ls 9 (xLl b (aX 0) (aM 0) ao (nI (6 * n)))) (hcs : cells + 20 ≤ 601024 ∧ slots + 120 ≤ 7293034) (v9 b9 : Int32) (σX1 σM1 : xSt) (hfX : fX11_endDay σX = some (v9, σX1)) (hfM : fX12_endDay σM = some (b9, σM1)) (heq : v9 = b9) (kk : ∀ (H : Heap) (locs : List Loc) (ls : Array Slot), xwW (xEX D aX aM cA g σM1) ao cL A t.heap t σX1 fo H locs → lv_has ls 9 (xLl b (aX 0) (aM 0) ao (nI (6 * n))) → W p l e room_1 t m args below meth c H locs (cells + 20) (slots + 120) Q (F0 m 2908 ls [])) : W p l e room_1 t m args below meth c H locs cells slots Q (F0 m 1490 ls []) := by
  obtain ⟨hx, hb, hml, hown, hts, hXs, hbl, hn, hA, hbA, hG, hN⟩ := id Cx
  refine lv_aload_n hx hb dL_law_1490 rfl (lv_at hl 1 rfl) ?_
  refine x_calli (va_runV (As := []) (rest := []) ⟨hx, hb, hml, hown, hts⟩ (mX11_endDay (E := xEO (xEX D aX aM cA g σM) ao cL fo) rfl σX v9 σX1 hfX H.size) (cwV 0 hts gL_law_X11_endDay rfl rfl rfl (by decide +kernel) ⟨Nat.le_of_ble_eq_true rfl, Nat.le_of_ble_eq_true rfl⟩) (x_preV _ hw.in hA hG (cX0 rfl) rfl) rfl rfl hl.1 rfl (lv_room (Nat.le_of_ble_eq_true rfl)) dL_law_1491 ⟨by show cells + 0 ≤ 601024; omega, by show slots + 0 ≤ 7293034; omega⟩) hw.in hA (fun H locs hw9 => ?_)
  have hw := xwW.of hw.1 hw9
  refine lv_aload_n hx hb dL_law_1494 rfl (lv_at hl 2 rfl) ?_
  have hwm := xwM hw
  refine x_calli (va_runV (As := []) (rest := [.int v9]) ⟨hx, hb, hml, hown, hts⟩ (mX12_endDay (E := xEM D aX aM cA g ao cL σX1 fo) rfl σM b9 σM1 hfM H.size) (cwV 0 hts gL_law_X12_endDay rfl rfl rfl (by decide +kernel) ⟨Nat.le_of_ble_eq_true rfl, Nat.le_of_ble_eq_true rfl⟩) (x_preV _ hwm hA hG (cM0 rfl) rfl) rfl rfl hl.1 rfl (lv_room (Nat.le_of_ble_eq_true rfl)) dL_law_1495 ⟨by show cells + 0 ≤ 601024; omega, by show slots + 0 ≤ 7293034; omega⟩) hwm hA (fun H locs hwm => ?_)
  have hw := xwX hw.1 hwm
  refine lv_icmp_eq (tgt := 2908) hx hb dL_law_1498 (by decide) (fun _ => ?_) (fun h9 => absurd heq h9)
  refine W.widen (k := cells + 20) (n := slots + 120) (by omega) (by omega) ?_
  exact kk _ _ _ hw (lv_sub hl [0, 1, 2, 3, 4] rfl)

set_option maxRecDepth 100000 in
set_option maxHeartbeats 4000000 in
theorem lawc_25 {p : Program} {l : Launch} {e : Env} {t : State} {m : MethodId} {args : Array Value} {below : List Frame} {meth : Method} {c : Code} {Q : State → Prop} {H : Heap} {locs : List Loc} {cells slots b L n : Nat} {xs : Nat → Int32} {A : Nat → Prop} {D : va_G} {aX aM : Nat → Nat} {cA cL : ClassId} {ao : Nat} {g : Nat × Nat × (Nat → Nat)} {σX σM : xSt} {fo : Nat → Int64} {ls : Array Slot} (hl0 : l.stackTraces = false) (Cx : xLC p t m args c b L n xs A g) (hw : xwW (xEX D aX aM cA g σM) ao cL A t.heap t σX fo H locs) (hl : lv_has ls 9 (xLl b (aX 0) (aM 0) ao (nI (6 * n)))) (hcs : cells + 20 ≤ 601024 ∧ slots + 120 ≤ 7293034) (o : xO) (b9 : Int32) (σX1 σM1 : xSt) (hfX : fX11_sell (xs (6 * n + 1)) (xs (6 * n + 2)) σX = some (o, σX1)) (hk : ∀ k, o = .inr k → k = 0 ∨ k = 1 ∨ k = 2) (hfM : fX12_sell (xs (6 * n + 1)) (xs (6 * n + 2)) σM = some (b9, σM1)) (hth : σM1 0 0 = xcd 1 2 3 9 o) (ha : ∀ v, o = .inl v → v = b9) (kk : ∀ (H : Heap) (locs : List Loc) (ls : Array Slot), xwW (xEX D aX aM cA g σM1) ao cL A t.heap t σX1 (xou fo o) H locs → lv_has ls 9 (xLl b (aX 0) (aM 0) ao (nI (6 * n))) → W p l e room_1 t m args below meth c H locs (cells + 20) (slots + 120) Q (F0 m 2908 ls [])) : W p l e room_1 t m args below meth c H locs cells slots Q (F0 m 1503 ls []) := by
  obtain ⟨hx, hb, hml, hown, hts, hXs, hbl, hn, hA, hbA, hG, hN⟩ := id Cx
  refine lv_aload_n hx hb dL_law_1503 rfl (lv_at hl 1 rfl) ?_
  refine x_arg Cx hw.2.2.2 (lv_at hl 0 rfl) (lv_at hl 4 rfl) (k := 1) (by decide) (kv := 1) (by decide) dL_law_1504 dL_law_1505 (fun h9 => lv_iconst (v := 1) hx hb dL_law_1507 (by decide) h9) dL_law_1508 dL_law_1509 ?_
  refine x_arg Cx hw.2.2.2 (lv_at hl 0 rfl) (lv_at hl 4 rfl) (k := 2) (by decide) (kv := 2) (by decide) dL_law_1510 dL_law_1511 (fun h9 => lv_iconst (v := 2) hx hb dL_law_1513 (by decide) h9) dL_law_1514 dL_law_1515 ?_
  refine lv_aload_n hx hb dL_law_1516 rfl (lv_at hl 3 rfl) ?_
  refine x_wcalli (vx_runSX (hh := [(0, 10, 13, 13), (0, 10, 17, 15), (0, 10, 21, 17)]) (As := [.ref (aX 0), .int (xs (6 * n + 1)), .int (xs (6 * n + 2)), .ref ao]) (rest := []) ⟨hx, hb, hml, hown, hts⟩ (mL_sell hl0 (E := xEX D aX aM cA g σM) rfl ao cL (xs (6 * n + 1)) (xs (6 * n + 2)) σX fo o σX1 hfX hk H.size) (vx_cwSW 4 hts gL_law_L_sell rfl rfl rfl (by decide +kernel) ⟨Nat.le_of_ble_eq_true rfl, Nat.le_of_ble_eq_true rfl⟩) (x_preW _ hw hA hG hN) rfl rfl hl.1 rfl (lv_room (Nat.le_of_ble_eq_true rfl)) dL_law_1517 ⟨by show cells + 3 ≤ 601024; omega, by show slots + 18 ≤ 7293034; omega⟩) hw hA (fun H locs hw => ?_)
  refine lv_istore (lv' := [(5, .int (xcd 1 2 3 9 o)), (0, .ref b), (1, .ref (aX 0)), (2, .ref (aM 0)), (3, .ref ao), (4, .int (nI (6 * n)))]) hx hb dL_law_1520 hl (by decide) rfl (fun ls hl => ?_)
  refine lv_aload_n hx hb dL_law_1522 rfl (lv_at hl 3 rfl) ?_
  refine x_arg Cx hw.2.2.2 (lv_at hl 1 rfl) (lv_at hl 5 rfl) (k := 1) (by decide) (kv := 1) (by decide) dL_law_1523 dL_law_1524 (fun h9 => lv_iconst (v := 1) hx hb dL_law_1526 (by decide) h9) dL_law_1527 dL_law_1528 ?_
  refine x_arg Cx hw.2.2.2 (lv_at hl 1 rfl) (lv_at hl 5 rfl) (k := 2) (by decide) (kv := 2) (by decide) dL_law_1529 dL_law_1530 (fun h9 => lv_iconst (v := 2) hx hb dL_law_1532 (by decide) h9) dL_law_1533 dL_law_1534 ?_
  have hwm := xwM hw
  refine x_calli (va_runV (As := [.int (xs (6 * n + 1)), .int (xs (6 * n + 2))]) (rest := []) ⟨hx, hb, hml, hown, hts⟩ (mX12_sell (E := xEM D aX aM cA g ao cL σX1 (xou fo o)) rfl (xs (6 * n + 1)) (xs (6 * n + 2)) σM b9 σM1 hfM H.size) (cwV 2 hts gL_law_X12_sell rfl rfl rfl (by decide +kernel) ⟨Nat.le_of_ble_eq_true rfl, Nat.le_of_ble_eq_true rfl⟩) (x_preV _ hwm hA hG (cM0 rfl) rfl) rfl rfl hl.1 rfl (lv_room (Nat.le_of_ble_eq_true rfl)) dL_law_1535 ⟨by show cells + 3 + 0 ≤ 601024; omega, by show slots + 18 + 0 ≤ 7293034; omega⟩) hwm hA (fun H locs hwm => ?_)
  have hw := xwX hw.1 hwm
  refine lv_istore (lv' := [(6, .int b9), (5, .int (xcd 1 2 3 9 o)), (0, .ref b), (1, .ref (aX 0)), (2, .ref (aM 0)), (3, .ref ao), (4, .int (nI (6 * n)))]) hx hb dL_law_1538 hl (by decide) rfl (fun ls hl => ?_)
  refine lv_aload_n hx hb dL_law_1540 rfl (lv_at hl 4 rfl) ?_
  have hwm := xwM hw
  refine x_calli (va_runV (As := []) (rest := []) ⟨hx, hb, hml, hown, hts⟩ (mX12_thrown (E := xEM D aX aM cA g ao cL σX1 (xou fo o)) rfl σM1 (σM1 0 0) σM1 (show fX12_thrown σM1 = some (σM1 0 0, σM1) from rfl) H.size) (cwV 0 hts gL_law_X12_thrown rfl rfl rfl (by decide +kernel) ⟨Nat.le_of_ble_eq_true rfl, Nat.le_of_ble_eq_true rfl⟩) (x_preV _ hwm hA hG (cM0 rfl) rfl) rfl rfl hl.1 rfl (lv_room (Nat.le_of_ble_eq_true rfl)) dL_law_1541 ⟨by show cells + 3 + 0 ≤ 601024; omega, by show slots + 18 + 0 ≤ 7293034; omega⟩) hwm hA (fun H locs hwm => ?_)
  have hw := xwX hw.1 hwm
  refine lv_iload hx hb dL_law_1544 (lv_at hl 1 rfl) ?_
  refine lv_icmp_eq (tgt := 1551) hx hb dL_law_1546 (by decide) (fun _ => ?_) (fun h9 => absurd hth h9)
  refine lv_iload hx hb dL_law_1551 (lv_at hl 1 rfl) ?_
  cases o with
  | inl v =>
    · refine lv_if_ne (tgt := 1568) hx hb dL_law_1553 (by decide) (fun h9 => absurd rfl h9) (fun _ => ?_)
      refine lv_aload_n hx hb dL_law_1556 rfl (lv_at hl 5 rfl) ?_
      refine lv_iconst (v := 0) hx hb dL_law_1557 (by decide) ?_
      refine x_wlald hx hb hw dL_law_1558 ?_
      refine lv_iload hx hb dL_law_1559 (lv_at hl 0 rfl) ?_
      refine lv_i2l hx hb dL_law_1561 rfl ?_
      refine W.lcmp hx hb dL_law_1562 ?_
      refine lv_if_eq (tgt := 1568) hx hb dL_law_1563 (by decide) (fun _ => ?_) (fun h9 => absurd ((lg_cmp_eq _ _).mpr (by rw [ha v rfl]; rfl)) h9)
      refine lv_goto (tgt := 2908) hx hb dL_law_1568 (by decide) ?_
      refine W.widen (k := cells + 20) (n := slots + 120) (by omega) (by omega) ?_
      exact kk _ _ _ hw (lv_sub hl [2, 3, 4, 5, 6] rfl)
  | inr k =>
    · refine lv_if_ne (tgt := 1568) hx hb dL_law_1553 (by decide) (fun _ => ?_) (fun h9 => absurd h9 (xcd_ne (by decide) (by decide) (by decide) (by decide)))
      refine lv_goto (tgt := 2908) hx hb dL_law_1568 (by decide) ?_
      refine W.widen (k := cells + 20) (n := slots + 120) (by omega) (by omega) ?_
      exact kk _ _ _ hw (lv_sub hl [2, 3, 4, 5, 6] rfl)

set_option maxRecDepth 100000 in
set_option maxHeartbeats 4000000 in
theorem lawc_26 {p : Program} {l : Launch} {e : Env} {t : State} {m : MethodId} {args : Array Value} {below : List Frame} {meth : Method} {c : Code} {Q : State → Prop} {H : Heap} {locs : List Loc} {cells slots b L n : Nat} {xs : Nat → Int32} {A : Nat → Prop} {D : va_G} {aX aM : Nat → Nat} {cA cL : ClassId} {ao : Nat} {g : Nat × Nat × (Nat → Nat)} {σX σM : xSt} {fo : Nat → Int64} {ls : Array Slot} (hl0 : l.stackTraces = false) (Cx : xLC p t m args c b L n xs A g) (hw : xwW (xEX D aX aM cA g σM) ao cL A t.heap t σX fo H locs) (hl : lv_has ls 9 (xLl b (aX 0) (aM 0) ao (nI (6 * n)))) (hcs : cells + 20 ≤ 601024 ∧ slots + 120 ≤ 7293034) (o : xO) (b9 : Int32) (σX1 σM1 : xSt) (hfX : fX11_crumble (xs (6 * n + 1)) σX = some (o, σX1)) (hk : ∀ k, o = .inr k → k = 0) (hfM : fX12_crumble (xs (6 * n + 1)) σM = some (b9, σM1)) (hth : σM1 0 0 = xcd 1 9 9 9 o) (ha : ∀ v, o = .inl v → v = b9) (kk : ∀ (H : Heap) (locs : List Loc) (ls : Array Slot), xwW (xEX D aX aM cA g σM1) ao cL A t.heap t σX1 (xou fo o) H locs → lv_has ls 9 (xLl b (aX 0) (aM 0) ao (nI (6 * n))) → W p l e room_1 t m args below meth c H locs (cells + 20) (slots + 120) Q (F0 m 2908 ls [])) : W p l e room_1 t m args below meth c H locs cells slots Q (F0 m 1571 ls []) := by
  obtain ⟨hx, hb, hml, hown, hts, hXs, hbl, hn, hA, hbA, hG, hN⟩ := id Cx
  refine lv_aload_n hx hb dL_law_1571 rfl (lv_at hl 1 rfl) ?_
  refine x_arg Cx hw.2.2.2 (lv_at hl 0 rfl) (lv_at hl 4 rfl) (k := 1) (by decide) (kv := 1) (by decide) dL_law_1572 dL_law_1573 (fun h9 => lv_iconst (v := 1) hx hb dL_law_1575 (by decide) h9) dL_law_1576 dL_law_1577 ?_
  refine lv_aload_n hx hb dL_law_1578 rfl (lv_at hl 3 rfl) ?_
  refine x_wcalli (vx_runSX (hh := [(0, 9, 12, 13)]) (As := [.ref (aX 0), .int (xs (6 * n + 1)), .ref ao]) (rest := []) ⟨hx, hb, hml, hown, hts⟩ (mL_crumble hl0 (E := xEX D aX aM cA g σM) rfl ao cL (xs (6 * n + 1)) σX fo o σX1 hfX hk H.size) (vx_cwSW 3 hts gL_law_L_crumble rfl rfl rfl (by decide +kernel) ⟨Nat.le_of_ble_eq_true rfl, Nat.le_of_ble_eq_true rfl⟩) (x_preW _ hw hA hG hN) rfl rfl hl.1 rfl (lv_room (Nat.le_of_ble_eq_true rfl)) dL_law_1579 ⟨by show cells + 1 ≤ 601024; omega, by show slots + 6 ≤ 7293034; omega⟩) hw hA (fun H locs hw => ?_)
  refine lv_istore (lv' := [(5, .int (xcd 1 9 9 9 o)), (0, .ref b), (1, .ref (aX 0)), (2, .ref (aM 0)), (3, .ref ao), (4, .int (nI (6 * n)))]) hx hb dL_law_1582 hl (by decide) rfl (fun ls hl => ?_)
  refine lv_aload_n hx hb dL_law_1584 rfl (lv_at hl 3 rfl) ?_
  refine x_arg Cx hw.2.2.2 (lv_at hl 1 rfl) (lv_at hl 5 rfl) (k := 1) (by decide) (kv := 1) (by decide) dL_law_1585 dL_law_1586 (fun h9 => lv_iconst (v := 1) hx hb dL_law_1588 (by decide) h9) dL_law_1589 dL_law_1590 ?_
  have hwm := xwM hw
  refine x_calli (va_runV (As := [.int (xs (6 * n + 1))]) (rest := []) ⟨hx, hb, hml, hown, hts⟩ (mX12_crumble (E := xEM D aX aM cA g ao cL σX1 (xou fo o)) rfl (xs (6 * n + 1)) σM b9 σM1 hfM H.size) (cwV 1 hts gL_law_X12_crumble rfl rfl rfl (by decide +kernel) ⟨Nat.le_of_ble_eq_true rfl, Nat.le_of_ble_eq_true rfl⟩) (x_preV _ hwm hA hG (cM0 rfl) rfl) rfl rfl hl.1 rfl (lv_room (Nat.le_of_ble_eq_true rfl)) dL_law_1591 ⟨by show cells + 1 + 0 ≤ 601024; omega, by show slots + 6 + 0 ≤ 7293034; omega⟩) hwm hA (fun H locs hwm => ?_)
  have hw := xwX hw.1 hwm
  refine lv_istore (lv' := [(6, .int b9), (5, .int (xcd 1 9 9 9 o)), (0, .ref b), (1, .ref (aX 0)), (2, .ref (aM 0)), (3, .ref ao), (4, .int (nI (6 * n)))]) hx hb dL_law_1594 hl (by decide) rfl (fun ls hl => ?_)
  refine lv_aload_n hx hb dL_law_1596 rfl (lv_at hl 4 rfl) ?_
  have hwm := xwM hw
  refine x_calli (va_runV (As := []) (rest := []) ⟨hx, hb, hml, hown, hts⟩ (mX12_thrown (E := xEM D aX aM cA g ao cL σX1 (xou fo o)) rfl σM1 (σM1 0 0) σM1 (show fX12_thrown σM1 = some (σM1 0 0, σM1) from rfl) H.size) (cwV 0 hts gL_law_X12_thrown rfl rfl rfl (by decide +kernel) ⟨Nat.le_of_ble_eq_true rfl, Nat.le_of_ble_eq_true rfl⟩) (x_preV _ hwm hA hG (cM0 rfl) rfl) rfl rfl hl.1 rfl (lv_room (Nat.le_of_ble_eq_true rfl)) dL_law_1597 ⟨by show cells + 1 + 0 ≤ 601024; omega, by show slots + 6 + 0 ≤ 7293034; omega⟩) hwm hA (fun H locs hwm => ?_)
  have hw := xwX hw.1 hwm
  refine lv_iload hx hb dL_law_1600 (lv_at hl 1 rfl) ?_
  refine lv_icmp_eq (tgt := 1607) hx hb dL_law_1602 (by decide) (fun _ => ?_) (fun h9 => absurd hth h9)
  refine lv_iload hx hb dL_law_1607 (lv_at hl 1 rfl) ?_
  cases o with
  | inl v =>
    · refine lv_if_ne (tgt := 1624) hx hb dL_law_1609 (by decide) (fun h9 => absurd rfl h9) (fun _ => ?_)
      refine lv_aload_n hx hb dL_law_1612 rfl (lv_at hl 5 rfl) ?_
      refine lv_iconst (v := 0) hx hb dL_law_1613 (by decide) ?_
      refine x_wlald hx hb hw dL_law_1614 ?_
      refine lv_iload hx hb dL_law_1615 (lv_at hl 0 rfl) ?_
      refine lv_i2l hx hb dL_law_1617 rfl ?_
      refine W.lcmp hx hb dL_law_1618 ?_
      refine lv_if_eq (tgt := 1624) hx hb dL_law_1619 (by decide) (fun _ => ?_) (fun h9 => absurd ((lg_cmp_eq _ _).mpr (by rw [ha v rfl]; rfl)) h9)
      refine lv_goto (tgt := 2908) hx hb dL_law_1624 (by decide) ?_
      refine W.widen (k := cells + 20) (n := slots + 120) (by omega) (by omega) ?_
      exact kk _ _ _ hw (lv_sub hl [2, 3, 4, 5, 6] rfl)
  | inr k =>
    · refine lv_if_ne (tgt := 1624) hx hb dL_law_1609 (by decide) (fun _ => ?_) (fun h9 => absurd h9 (xcd_ne (by decide) (by decide) (by decide) (by decide)))
      refine lv_goto (tgt := 2908) hx hb dL_law_1624 (by decide) ?_
      refine W.widen (k := cells + 20) (n := slots + 120) (by omega) (by omega) ?_
      exact kk _ _ _ hw (lv_sub hl [2, 3, 4, 5, 6] rfl)

set_option maxRecDepth 100000 in
set_option maxHeartbeats 4000000 in
theorem lawc_27 {p : Program} {l : Launch} {e : Env} {t : State} {m : MethodId} {args : Array Value} {below : List Frame} {meth : Method} {c : Code} {Q : State → Prop} {H : Heap} {locs : List Loc} {cells slots b L n : Nat} {xs : Nat → Int32} {A : Nat → Prop} {D : va_G} {aX aM : Nat → Nat} {cA cL : ClassId} {ao : Nat} {g : Nat × Nat × (Nat → Nat)} {σX σM : xSt} {fo : Nat → Int64} {ls : Array Slot} (hl0 : l.stackTraces = false) (Cx : xLC p t m args c b L n xs A g) (hw : xwW (xEX D aX aM cA g σM) ao cL A t.heap t σX fo H locs) (hl : lv_has ls 9 (xLl b (aX 0) (aM 0) ao (nI (6 * n)))) (hcs : cells + 20 ≤ 601024 ∧ slots + 120 ≤ 7293034) (o : xO) (b9 : Int32) (σX1 σM1 : xSt) (hfX : fX11_setFlour (xs (6 * n + 1)) (xs (6 * n + 2)) (xs (6 * n + 3)) (xs (6 * n + 4)) σX = some (o, σX1)) (hk : ∀ k, o = .inr k → k = 0 ∨ k = 1) (hfM : fX12_setFlour (xs (6 * n + 1)) (xs (6 * n + 2)) (xs (6 * n + 3)) (xs (6 * n + 4)) σM = some (b9, σM1)) (hth : σM1 0 0 = xcd 1 2 9 9 o) (ha : ∀ v, o = .inl v → v = b9) (kk : ∀ (H : Heap) (locs : List Loc) (ls : Array Slot), xwW (xEX D aX aM cA g σM1) ao cL A t.heap t σX1 (xou fo o) H locs → lv_has ls 9 (xLl b (aX 0) (aM 0) ao (nI (6 * n))) → W p l e room_1 t m args below meth c H locs (cells + 20) (slots + 120) Q (F0 m 2908 ls [])) : W p l e room_1 t m args below meth c H locs cells slots Q (F0 m 1627 ls []) := by
  obtain ⟨hx, hb, hml, hown, hts, hXs, hbl, hn, hA, hbA, hG, hN⟩ := id Cx
  refine lv_aload_n hx hb dL_law_1627 rfl (lv_at hl 1 rfl) ?_
  refine x_arg Cx hw.2.2.2 (lv_at hl 0 rfl) (lv_at hl 4 rfl) (k := 1) (by decide) (kv := 1) (by decide) dL_law_1628 dL_law_1629 (fun h9 => lv_iconst (v := 1) hx hb dL_law_1631 (by decide) h9) dL_law_1632 dL_law_1633 ?_
  refine x_arg Cx hw.2.2.2 (lv_at hl 0 rfl) (lv_at hl 4 rfl) (k := 2) (by decide) (kv := 2) (by decide) dL_law_1634 dL_law_1635 (fun h9 => lv_iconst (v := 2) hx hb dL_law_1637 (by decide) h9) dL_law_1638 dL_law_1639 ?_
  refine x_arg Cx hw.2.2.2 (lv_at hl 0 rfl) (lv_at hl 4 rfl) (k := 3) (by decide) (kv := 3) (by decide) dL_law_1640 dL_law_1641 (fun h9 => lv_iconst (v := 3) hx hb dL_law_1643 (by decide) h9) dL_law_1644 dL_law_1645 ?_
  refine x_arg Cx hw.2.2.2 (lv_at hl 0 rfl) (lv_at hl 4 rfl) (k := 4) (by decide) (kv := 4) (by decide) dL_law_1646 dL_law_1647 (fun h9 => lv_iconst (v := 4) hx hb dL_law_1649 (by decide) h9) dL_law_1650 dL_law_1651 ?_
  refine lv_aload_n hx hb dL_law_1652 rfl (lv_at hl 3 rfl) ?_
  refine x_wcalli (vx_runSX (hh := [(0, 14, 17, 13), (0, 14, 21, 15)]) (As := [.ref (aX 0), .int (xs (6 * n + 1)), .int (xs (6 * n + 2)), .int (xs (6 * n + 3)), .int (xs (6 * n + 4)), .ref ao]) (rest := []) ⟨hx, hb, hml, hown, hts⟩ (mL_setFlour hl0 (E := xEX D aX aM cA g σM) rfl ao cL (xs (6 * n + 1)) (xs (6 * n + 2)) (xs (6 * n + 3)) (xs (6 * n + 4)) σX fo o σX1 hfX hk H.size) (vx_cwSW 6 hts gL_law_L_setFlour rfl rfl rfl (by decide +kernel) ⟨Nat.le_of_ble_eq_true rfl, Nat.le_of_ble_eq_true rfl⟩) (x_preW _ hw hA hG hN) rfl rfl hl.1 rfl (lv_room (Nat.le_of_ble_eq_true rfl)) dL_law_1653 ⟨by show cells + 2 ≤ 601024; omega, by show slots + 12 ≤ 7293034; omega⟩) hw hA (fun H locs hw => ?_)
  refine lv_istore (lv' := [(5, .int (xcd 1 2 9 9 o)), (0, .ref b), (1, .ref (aX 0)), (2, .ref (aM 0)), (3, .ref ao), (4, .int (nI (6 * n)))]) hx hb dL_law_1656 hl (by decide) rfl (fun ls hl => ?_)
  refine lv_aload_n hx hb dL_law_1658 rfl (lv_at hl 3 rfl) ?_
  refine x_arg Cx hw.2.2.2 (lv_at hl 1 rfl) (lv_at hl 5 rfl) (k := 1) (by decide) (kv := 1) (by decide) dL_law_1659 dL_law_1660 (fun h9 => lv_iconst (v := 1) hx hb dL_law_1662 (by decide) h9) dL_law_1663 dL_law_1664 ?_
  refine x_arg Cx hw.2.2.2 (lv_at hl 1 rfl) (lv_at hl 5 rfl) (k := 2) (by decide) (kv := 2) (by decide) dL_law_1665 dL_law_1666 (fun h9 => lv_iconst (v := 2) hx hb dL_law_1668 (by decide) h9) dL_law_1669 dL_law_1670 ?_
  refine x_arg Cx hw.2.2.2 (lv_at hl 1 rfl) (lv_at hl 5 rfl) (k := 3) (by decide) (kv := 3) (by decide) dL_law_1671 dL_law_1672 (fun h9 => lv_iconst (v := 3) hx hb dL_law_1674 (by decide) h9) dL_law_1675 dL_law_1676 ?_
  refine x_arg Cx hw.2.2.2 (lv_at hl 1 rfl) (lv_at hl 5 rfl) (k := 4) (by decide) (kv := 4) (by decide) dL_law_1677 dL_law_1678 (fun h9 => lv_iconst (v := 4) hx hb dL_law_1680 (by decide) h9) dL_law_1681 dL_law_1682 ?_
  have hwm := xwM hw
  refine x_calli (va_runV (As := [.int (xs (6 * n + 1)), .int (xs (6 * n + 2)), .int (xs (6 * n + 3)), .int (xs (6 * n + 4))]) (rest := []) ⟨hx, hb, hml, hown, hts⟩ (mX12_setFlour (E := xEM D aX aM cA g ao cL σX1 (xou fo o)) rfl (xs (6 * n + 1)) (xs (6 * n + 2)) (xs (6 * n + 3)) (xs (6 * n + 4)) σM b9 σM1 hfM H.size) (cwV 4 hts gL_law_X12_setFlour rfl rfl rfl (by decide +kernel) ⟨Nat.le_of_ble_eq_true rfl, Nat.le_of_ble_eq_true rfl⟩) (x_preV _ hwm hA hG (cM0 rfl) rfl) rfl rfl hl.1 rfl (lv_room (Nat.le_of_ble_eq_true rfl)) dL_law_1683 ⟨by show cells + 2 + 0 ≤ 601024; omega, by show slots + 12 + 0 ≤ 7293034; omega⟩) hwm hA (fun H locs hwm => ?_)
  have hw := xwX hw.1 hwm
  refine lv_istore (lv' := [(6, .int b9), (5, .int (xcd 1 2 9 9 o)), (0, .ref b), (1, .ref (aX 0)), (2, .ref (aM 0)), (3, .ref ao), (4, .int (nI (6 * n)))]) hx hb dL_law_1686 hl (by decide) rfl (fun ls hl => ?_)
  refine lv_aload_n hx hb dL_law_1688 rfl (lv_at hl 4 rfl) ?_
  have hwm := xwM hw
  refine x_calli (va_runV (As := []) (rest := []) ⟨hx, hb, hml, hown, hts⟩ (mX12_thrown (E := xEM D aX aM cA g ao cL σX1 (xou fo o)) rfl σM1 (σM1 0 0) σM1 (show fX12_thrown σM1 = some (σM1 0 0, σM1) from rfl) H.size) (cwV 0 hts gL_law_X12_thrown rfl rfl rfl (by decide +kernel) ⟨Nat.le_of_ble_eq_true rfl, Nat.le_of_ble_eq_true rfl⟩) (x_preV _ hwm hA hG (cM0 rfl) rfl) rfl rfl hl.1 rfl (lv_room (Nat.le_of_ble_eq_true rfl)) dL_law_1689 ⟨by show cells + 2 + 0 ≤ 601024; omega, by show slots + 12 + 0 ≤ 7293034; omega⟩) hwm hA (fun H locs hwm => ?_)
  have hw := xwX hw.1 hwm
  refine lv_iload hx hb dL_law_1692 (lv_at hl 1 rfl) ?_
  refine lv_icmp_eq (tgt := 1699) hx hb dL_law_1694 (by decide) (fun _ => ?_) (fun h9 => absurd hth h9)
  refine lv_iload hx hb dL_law_1699 (lv_at hl 1 rfl) ?_
  cases o with
  | inl v =>
    · refine lv_if_ne (tgt := 1716) hx hb dL_law_1701 (by decide) (fun h9 => absurd rfl h9) (fun _ => ?_)
      refine lv_aload_n hx hb dL_law_1704 rfl (lv_at hl 5 rfl) ?_
      refine lv_iconst (v := 0) hx hb dL_law_1705 (by decide) ?_
      refine x_wlald hx hb hw dL_law_1706 ?_
      refine lv_iload hx hb dL_law_1707 (lv_at hl 0 rfl) ?_
      refine lv_i2l hx hb dL_law_1709 rfl ?_
      refine W.lcmp hx hb dL_law_1710 ?_
      refine lv_if_eq (tgt := 1716) hx hb dL_law_1711 (by decide) (fun _ => ?_) (fun h9 => absurd ((lg_cmp_eq _ _).mpr (by rw [ha v rfl]; rfl)) h9)
      refine lv_goto (tgt := 2908) hx hb dL_law_1716 (by decide) ?_
      refine W.widen (k := cells + 20) (n := slots + 120) (by omega) (by omega) ?_
      exact kk _ _ _ hw (lv_sub hl [2, 3, 4, 5, 6] rfl)
  | inr k =>
    · refine lv_if_ne (tgt := 1716) hx hb dL_law_1701 (by decide) (fun _ => ?_) (fun h9 => absurd h9 (xcd_ne (by decide) (by decide) (by decide) (by decide)))
      refine lv_goto (tgt := 2908) hx hb dL_law_1716 (by decide) ?_
      refine W.widen (k := cells + 20) (n := slots + 120) (by omega) (by omega) ?_
      exact kk _ _ _ hw (lv_sub hl [2, 3, 4, 5, 6] rfl)

set_option maxRecDepth 100000 in
set_option maxHeartbeats 4000000 in
theorem lawc_28 {p : Program} {l : Launch} {e : Env} {t : State} {m : MethodId} {args : Array Value} {below : List Frame} {meth : Method} {c : Code} {Q : State → Prop} {H : Heap} {locs : List Loc} {cells slots b L n : Nat} {xs : Nat → Int32} {A : Nat → Prop} {D : va_G} {aX aM : Nat → Nat} {cA cL : ClassId} {ao : Nat} {g : Nat × Nat × (Nat → Nat)} {σX σM : xSt} {fo : Nat → Int64} {ls : Array Slot} (hl0 : l.stackTraces = false) (Cx : xLC p t m args c b L n xs A g) (hw : xwW (xEX D aX aM cA g σM) ao cL A t.heap t σX fo H locs) (hl : lv_has ls 9 (xLl b (aX 0) (aM 0) ao (nI (6 * n)))) (hcs : cells + 20 ≤ 601024 ∧ slots + 120 ≤ 7293034) (o : xO) (b9 : Int32) (σX1 σM1 : xSt) (hfX : fX11_mixCost (xs (6 * n + 1)) (xs (6 * n + 2)) (if (xs (6 * n + 3)) = 0 then 0 else 1) σX = some (o, σX1)) (hk : ∀ k, o = .inr k → k = 1 ∨ k = 3) (hfM : fX12_mixCost (xs (6 * n + 1)) (xs (6 * n + 2)) (if (xs (6 * n + 3)) = 0 then 0 else 1) σM = some (b9, σM1)) (hth : σM1 0 0 = xcd 9 1 9 2 o) (ha : ∀ v, o = .inl v → v = b9) (kk : ∀ (H : Heap) (locs : List Loc) (ls : Array Slot), xwW (xEX D aX aM cA g σM1) ao cL A t.heap t σX1 (xou fo o) H locs → lv_has ls 9 (xLl b (aX 0) (aM 0) ao (nI (6 * n))) → W p l e room_1 t m args below meth c H locs (cells + 20) (slots + 120) Q (F0 m 2908 ls [])) : W p l e room_1 t m args below meth c H locs cells slots Q (F0 m 1719 ls []) := by
  obtain ⟨hx, hb, hml, hown, hts, hXs, hbl, hn, hA, hbA, hG, hN⟩ := id Cx
  refine lv_aload_n hx hb dL_law_1719 rfl (lv_at hl 1 rfl) ?_
  refine x_arg Cx hw.2.2.2 (lv_at hl 0 rfl) (lv_at hl 4 rfl) (k := 1) (by decide) (kv := 1) (by decide) dL_law_1720 dL_law_1721 (fun h9 => lv_iconst (v := 1) hx hb dL_law_1723 (by decide) h9) dL_law_1724 dL_law_1725 ?_
  refine x_arg Cx hw.2.2.2 (lv_at hl 0 rfl) (lv_at hl 4 rfl) (k := 2) (by decide) (kv := 2) (by decide) dL_law_1726 dL_law_1727 (fun h9 => lv_iconst (v := 2) hx hb dL_law_1729 (by decide) h9) dL_law_1730 dL_law_1731 ?_
  refine x_arg Cx hw.2.2.2 (lv_at hl 0 rfl) (lv_at hl 4 rfl) (k := 3) (by decide) (kv := 3) (by decide) dL_law_1732 dL_law_1733 (fun h9 => lv_iconst (v := 3) hx hb dL_law_1735 (by decide) h9) dL_law_1736 dL_law_1737 ?_
  refine lv_if_eq (tgt := 1745) hx hb dL_law_1738 (by decide) (fun hz => ?_) (fun hz => ?_)
  · rw [if_pos hz] at hfX hfM
    refine lv_iconst (v := 0) hx hb dL_law_1745 (by decide) ?_
    refine lv_aload_n hx hb dL_law_1746 rfl (lv_at hl 3 rfl) ?_
    refine x_wcalli (vx_runSX (hh := [(0, 12, 15, 15), (0, 12, 19, 87)]) (As := [.ref (aX 0), .int (xs (6 * n + 1)), .int (xs (6 * n + 2)), .int 0, .ref ao]) (rest := []) ⟨hx, hb, hml, hown, hts⟩ (mL_mixCost hl0 (E := xEX D aX aM cA g σM) rfl ao cL (xs (6 * n + 1)) (xs (6 * n + 2)) 0 σX fo o σX1 hfX hk H.size) (vx_cwSW 5 hts gL_law_L_mixCost rfl rfl rfl (by decide +kernel) ⟨Nat.le_of_ble_eq_true rfl, Nat.le_of_ble_eq_true rfl⟩) (x_preW _ hw hA hG hN) rfl rfl hl.1 rfl (lv_room (Nat.le_of_ble_eq_true rfl)) dL_law_1747 ⟨by show cells + 2 ≤ 601024; omega, by show slots + 12 ≤ 7293034; omega⟩) hw hA (fun H locs hw => ?_)
    refine lv_istore (lv' := [(5, .int (xcd 9 1 9 2 o)), (0, .ref b), (1, .ref (aX 0)), (2, .ref (aM 0)), (3, .ref ao), (4, .int (nI (6 * n)))]) hx hb dL_law_1750 hl (by decide) rfl (fun ls hl => ?_)
    refine lv_aload_n hx hb dL_law_1752 rfl (lv_at hl 3 rfl) ?_
    refine x_arg Cx hw.2.2.2 (lv_at hl 1 rfl) (lv_at hl 5 rfl) (k := 1) (by decide) (kv := 1) (by decide) dL_law_1753 dL_law_1754 (fun h9 => lv_iconst (v := 1) hx hb dL_law_1756 (by decide) h9) dL_law_1757 dL_law_1758 ?_
    refine x_arg Cx hw.2.2.2 (lv_at hl 1 rfl) (lv_at hl 5 rfl) (k := 2) (by decide) (kv := 2) (by decide) dL_law_1759 dL_law_1760 (fun h9 => lv_iconst (v := 2) hx hb dL_law_1762 (by decide) h9) dL_law_1763 dL_law_1764 ?_
    refine x_arg Cx hw.2.2.2 (lv_at hl 1 rfl) (lv_at hl 5 rfl) (k := 3) (by decide) (kv := 3) (by decide) dL_law_1765 dL_law_1766 (fun h9 => lv_iconst (v := 3) hx hb dL_law_1768 (by decide) h9) dL_law_1769 dL_law_1770 ?_
    refine lv_if_eq (tgt := 1778) hx hb dL_law_1771 (by decide) (fun _ => ?_) (fun h9 => absurd hz h9)
    refine lv_iconst (v := 0) hx hb dL_law_1778 (by decide) ?_
    have hwm := xwM hw
    refine x_calli (va_runV (As := [.int (xs (6 * n + 1)), .int (xs (6 * n + 2)), .int 0]) (rest := []) ⟨hx, hb, hml, hown, hts⟩ (mX12_mixCost (E := xEM D aX aM cA g ao cL σX1 (xou fo o)) rfl (xs (6 * n + 1)) (xs (6 * n + 2)) 0 σM b9 σM1 hfM H.size) (cwV 3 hts gL_law_X12_mixCost rfl rfl rfl (by decide +kernel) ⟨Nat.le_of_ble_eq_true rfl, Nat.le_of_ble_eq_true rfl⟩) (x_preV _ hwm hA hG (cM0 rfl) rfl) rfl rfl hl.1 rfl (lv_room (Nat.le_of_ble_eq_true rfl)) dL_law_1779 ⟨by show cells + 2 + 0 ≤ 601024; omega, by show slots + 12 + 0 ≤ 7293034; omega⟩) hwm hA (fun H locs hwm => ?_)
    have hw := xwX hw.1 hwm
    refine lv_istore (lv' := [(6, .int b9), (5, .int (xcd 9 1 9 2 o)), (0, .ref b), (1, .ref (aX 0)), (2, .ref (aM 0)), (3, .ref ao), (4, .int (nI (6 * n)))]) hx hb dL_law_1782 hl (by decide) rfl (fun ls hl => ?_)
    refine lv_aload_n hx hb dL_law_1784 rfl (lv_at hl 4 rfl) ?_
    have hwm := xwM hw
    refine x_calli (va_runV (As := []) (rest := []) ⟨hx, hb, hml, hown, hts⟩ (mX12_thrown (E := xEM D aX aM cA g ao cL σX1 (xou fo o)) rfl σM1 (σM1 0 0) σM1 (show fX12_thrown σM1 = some (σM1 0 0, σM1) from rfl) H.size) (cwV 0 hts gL_law_X12_thrown rfl rfl rfl (by decide +kernel) ⟨Nat.le_of_ble_eq_true rfl, Nat.le_of_ble_eq_true rfl⟩) (x_preV _ hwm hA hG (cM0 rfl) rfl) rfl rfl hl.1 rfl (lv_room (Nat.le_of_ble_eq_true rfl)) dL_law_1785 ⟨by show cells + 2 + 0 ≤ 601024; omega, by show slots + 12 + 0 ≤ 7293034; omega⟩) hwm hA (fun H locs hwm => ?_)
    have hw := xwX hw.1 hwm
    refine lv_iload hx hb dL_law_1788 (lv_at hl 1 rfl) ?_
    refine lv_icmp_eq (tgt := 1795) hx hb dL_law_1790 (by decide) (fun _ => ?_) (fun h9 => absurd hth h9)
    refine lv_iload hx hb dL_law_1795 (lv_at hl 1 rfl) ?_
    cases o with
    | inl v =>
      · refine lv_if_ne (tgt := 1812) hx hb dL_law_1797 (by decide) (fun h9 => absurd rfl h9) (fun _ => ?_)
        refine lv_aload_n hx hb dL_law_1800 rfl (lv_at hl 5 rfl) ?_
        refine lv_iconst (v := 0) hx hb dL_law_1801 (by decide) ?_
        refine x_wlald hx hb hw dL_law_1802 ?_
        refine lv_iload hx hb dL_law_1803 (lv_at hl 0 rfl) ?_
        refine lv_i2l hx hb dL_law_1805 rfl ?_
        refine W.lcmp hx hb dL_law_1806 ?_
        refine lv_if_eq (tgt := 1812) hx hb dL_law_1807 (by decide) (fun _ => ?_) (fun h9 => absurd ((lg_cmp_eq _ _).mpr (by rw [ha v rfl]; rfl)) h9)
        refine lv_goto (tgt := 2908) hx hb dL_law_1812 (by decide) ?_
        refine W.widen (k := cells + 20) (n := slots + 120) (by omega) (by omega) ?_
        exact kk _ _ _ hw (lv_sub hl [2, 3, 4, 5, 6] rfl)
    | inr k =>
      · refine lv_if_ne (tgt := 1812) hx hb dL_law_1797 (by decide) (fun _ => ?_) (fun h9 => absurd h9 (xcd_ne (by decide) (by decide) (by decide) (by decide)))
        refine lv_goto (tgt := 2908) hx hb dL_law_1812 (by decide) ?_
        refine W.widen (k := cells + 20) (n := slots + 120) (by omega) (by omega) ?_
        exact kk _ _ _ hw (lv_sub hl [2, 3, 4, 5, 6] rfl)
  · rw [if_neg hz] at hfX hfM
    refine lv_iconst (v := 1) hx hb dL_law_1741 (by decide) ?_
    refine lv_goto (tgt := 1746) hx hb dL_law_1742 (by decide) ?_
    refine lv_aload_n hx hb dL_law_1746 rfl (lv_at hl 3 rfl) ?_
    refine x_wcalli (vx_runSX (hh := [(0, 12, 15, 15), (0, 12, 19, 87)]) (As := [.ref (aX 0), .int (xs (6 * n + 1)), .int (xs (6 * n + 2)), .int 1, .ref ao]) (rest := []) ⟨hx, hb, hml, hown, hts⟩ (mL_mixCost hl0 (E := xEX D aX aM cA g σM) rfl ao cL (xs (6 * n + 1)) (xs (6 * n + 2)) 1 σX fo o σX1 hfX hk H.size) (vx_cwSW 5 hts gL_law_L_mixCost rfl rfl rfl (by decide +kernel) ⟨Nat.le_of_ble_eq_true rfl, Nat.le_of_ble_eq_true rfl⟩) (x_preW _ hw hA hG hN) rfl rfl hl.1 rfl (lv_room (Nat.le_of_ble_eq_true rfl)) dL_law_1747 ⟨by show cells + 2 ≤ 601024; omega, by show slots + 12 ≤ 7293034; omega⟩) hw hA (fun H locs hw => ?_)
    refine lv_istore (lv' := [(5, .int (xcd 9 1 9 2 o)), (0, .ref b), (1, .ref (aX 0)), (2, .ref (aM 0)), (3, .ref ao), (4, .int (nI (6 * n)))]) hx hb dL_law_1750 hl (by decide) rfl (fun ls hl => ?_)
    refine lv_aload_n hx hb dL_law_1752 rfl (lv_at hl 3 rfl) ?_
    refine x_arg Cx hw.2.2.2 (lv_at hl 1 rfl) (lv_at hl 5 rfl) (k := 1) (by decide) (kv := 1) (by decide) dL_law_1753 dL_law_1754 (fun h9 => lv_iconst (v := 1) hx hb dL_law_1756 (by decide) h9) dL_law_1757 dL_law_1758 ?_
    refine x_arg Cx hw.2.2.2 (lv_at hl 1 rfl) (lv_at hl 5 rfl) (k := 2) (by decide) (kv := 2) (by decide) dL_law_1759 dL_law_1760 (fun h9 => lv_iconst (v := 2) hx hb dL_law_1762 (by decide) h9) dL_law_1763 dL_law_1764 ?_
    refine x_arg Cx hw.2.2.2 (lv_at hl 1 rfl) (lv_at hl 5 rfl) (k := 3) (by decide) (kv := 3) (by decide) dL_law_1765 dL_law_1766 (fun h9 => lv_iconst (v := 3) hx hb dL_law_1768 (by decide) h9) dL_law_1769 dL_law_1770 ?_
    refine lv_if_eq (tgt := 1778) hx hb dL_law_1771 (by decide) (fun h9 => absurd h9 hz) (fun _ => ?_)
    refine lv_iconst (v := 1) hx hb dL_law_1774 (by decide) ?_
    refine lv_goto (tgt := 1779) hx hb dL_law_1775 (by decide) ?_
    have hwm := xwM hw
    refine x_calli (va_runV (As := [.int (xs (6 * n + 1)), .int (xs (6 * n + 2)), .int 1]) (rest := []) ⟨hx, hb, hml, hown, hts⟩ (mX12_mixCost (E := xEM D aX aM cA g ao cL σX1 (xou fo o)) rfl (xs (6 * n + 1)) (xs (6 * n + 2)) 1 σM b9 σM1 hfM H.size) (cwV 3 hts gL_law_X12_mixCost rfl rfl rfl (by decide +kernel) ⟨Nat.le_of_ble_eq_true rfl, Nat.le_of_ble_eq_true rfl⟩) (x_preV _ hwm hA hG (cM0 rfl) rfl) rfl rfl hl.1 rfl (lv_room (Nat.le_of_ble_eq_true rfl)) dL_law_1779 ⟨by show cells + 2 + 0 ≤ 601024; omega, by show slots + 12 + 0 ≤ 7293034; omega⟩) hwm hA (fun H locs hwm => ?_)
    have hw := xwX hw.1 hwm
    refine lv_istore (lv' := [(6, .int b9), (5, .int (xcd 9 1 9 2 o)), (0, .ref b), (1, .ref (aX 0)), (2, .ref (aM 0)), (3, .ref ao), (4, .int (nI (6 * n)))]) hx hb dL_law_1782 hl (by decide) rfl (fun ls hl => ?_)
    refine lv_aload_n hx hb dL_law_1784 rfl (lv_at hl 4 rfl) ?_
    have hwm := xwM hw
    refine x_calli (va_runV (As := []) (rest := []) ⟨hx, hb, hml, hown, hts⟩ (mX12_thrown (E := xEM D aX aM cA g ao cL σX1 (xou fo o)) rfl σM1 (σM1 0 0) σM1 (show fX12_thrown σM1 = some (σM1 0 0, σM1) from rfl) H.size) (cwV 0 hts gL_law_X12_thrown rfl rfl rfl (by decide +kernel) ⟨Nat.le_of_ble_eq_true rfl, Nat.le_of_ble_eq_true rfl⟩) (x_preV _ hwm hA hG (cM0 rfl) rfl) rfl rfl hl.1 rfl (lv_room (Nat.le_of_ble_eq_true rfl)) dL_law_1785 ⟨by show cells + 2 + 0 ≤ 601024; omega, by show slots + 12 + 0 ≤ 7293034; omega⟩) hwm hA (fun H locs hwm => ?_)
    have hw := xwX hw.1 hwm
    refine lv_iload hx hb dL_law_1788 (lv_at hl 1 rfl) ?_
    refine lv_icmp_eq (tgt := 1795) hx hb dL_law_1790 (by decide) (fun _ => ?_) (fun h9 => absurd hth h9)
    refine lv_iload hx hb dL_law_1795 (lv_at hl 1 rfl) ?_
    cases o with
    | inl v =>
      · refine lv_if_ne (tgt := 1812) hx hb dL_law_1797 (by decide) (fun h9 => absurd rfl h9) (fun _ => ?_)
        refine lv_aload_n hx hb dL_law_1800 rfl (lv_at hl 5 rfl) ?_
        refine lv_iconst (v := 0) hx hb dL_law_1801 (by decide) ?_
        refine x_wlald hx hb hw dL_law_1802 ?_
        refine lv_iload hx hb dL_law_1803 (lv_at hl 0 rfl) ?_
        refine lv_i2l hx hb dL_law_1805 rfl ?_
        refine W.lcmp hx hb dL_law_1806 ?_
        refine lv_if_eq (tgt := 1812) hx hb dL_law_1807 (by decide) (fun _ => ?_) (fun h9 => absurd ((lg_cmp_eq _ _).mpr (by rw [ha v rfl]; rfl)) h9)
        refine lv_goto (tgt := 2908) hx hb dL_law_1812 (by decide) ?_
        refine W.widen (k := cells + 20) (n := slots + 120) (by omega) (by omega) ?_
        exact kk _ _ _ hw (lv_sub hl [2, 3, 4, 5, 6] rfl)
    | inr k =>
      · refine lv_if_ne (tgt := 1812) hx hb dL_law_1797 (by decide) (fun _ => ?_) (fun h9 => absurd h9 (xcd_ne (by decide) (by decide) (by decide) (by decide)))
        refine lv_goto (tgt := 2908) hx hb dL_law_1812 (by decide) ?_
        refine W.widen (k := cells + 20) (n := slots + 120) (by omega) (by omega) ?_
        exact kk _ _ _ hw (lv_sub hl [2, 3, 4, 5, 6] rfl)

set_option maxRecDepth 100000 in
set_option maxHeartbeats 4000000 in
theorem lawc_29 {p : Program} {l : Launch} {e : Env} {t : State} {m : MethodId} {args : Array Value} {below : List Frame} {meth : Method} {c : Code} {Q : State → Prop} {H : Heap} {locs : List Loc} {cells slots b L n : Nat} {xs : Nat → Int32} {A : Nat → Prop} {D : va_G} {aX aM : Nat → Nat} {cA cL : ClassId} {ao : Nat} {g : Nat × Nat × (Nat → Nat)} {σX σM : xSt} {fo : Nat → Int64} {ls : Array Slot} (hl0 : l.stackTraces = false) (Cx : xLC p t m args c b L n xs A g) (hw : xwW (xEX D aX aM cA g σM) ao cL A t.heap t σX fo H locs) (hl : lv_has ls 9 (xLl b (aX 0) (aM 0) ao (nI (6 * n)))) (hcs : cells + 20 ≤ 601024 ∧ slots + 120 ≤ 7293034) (o : xO) (b9 : Int32) (σX1 σM1 : xSt) (hfX : fX11_mixShare (xs (6 * n + 1)) (xs (6 * n + 2)) (xs (6 * n + 3)) (if (xs (6 * n + 4)) = 0 then 0 else 1) σX = some (o, σX1)) (hk : ∀ k, o = .inr k → k = 0 ∨ k = 1 ∨ k = 3) (hfM : fX12_mixShare (xs (6 * n + 1)) (xs (6 * n + 2)) (xs (6 * n + 3)) (if (xs (6 * n + 4)) = 0 then 0 else 1) σM = some (b9, σM1)) (hth : σM1 0 0 = xcd 1 2 9 3 o) (ha : ∀ v, o = .inl v → v = b9) (kk : ∀ (H : Heap) (locs : List Loc) (ls : Array Slot), xwW (xEX D aX aM cA g σM1) ao cL A t.heap t σX1 (xou fo o) H locs → lv_has ls 9 (xLl b (aX 0) (aM 0) ao (nI (6 * n))) → W p l e room_1 t m args below meth c H locs (cells + 20) (slots + 120) Q (F0 m 2908 ls [])) : W p l e room_1 t m args below meth c H locs cells slots Q (F0 m 1815 ls []) := by
  obtain ⟨hx, hb, hml, hown, hts, hXs, hbl, hn, hA, hbA, hG, hN⟩ := id Cx
  refine lv_aload_n hx hb dL_law_1815 rfl (lv_at hl 1 rfl) ?_
  refine x_arg Cx hw.2.2.2 (lv_at hl 0 rfl) (lv_at hl 4 rfl) (k := 1) (by decide) (kv := 1) (by decide) dL_law_1816 dL_law_1817 (fun h9 => lv_iconst (v := 1) hx hb dL_law_1819 (by decide) h9) dL_law_1820 dL_law_1821 ?_
  refine x_arg Cx hw.2.2.2 (lv_at hl 0 rfl) (lv_at hl 4 rfl) (k := 2) (by decide) (kv := 2) (by decide) dL_law_1822 dL_law_1823 (fun h9 => lv_iconst (v := 2) hx hb dL_law_1825 (by decide) h9) dL_law_1826 dL_law_1827 ?_
  refine x_arg Cx hw.2.2.2 (lv_at hl 0 rfl) (lv_at hl 4 rfl) (k := 3) (by decide) (kv := 3) (by decide) dL_law_1828 dL_law_1829 (fun h9 => lv_iconst (v := 3) hx hb dL_law_1831 (by decide) h9) dL_law_1832 dL_law_1833 ?_
  refine x_arg Cx hw.2.2.2 (lv_at hl 0 rfl) (lv_at hl 4 rfl) (k := 4) (by decide) (kv := 4) (by decide) dL_law_1834 dL_law_1835 (fun h9 => lv_iconst (v := 4) hx hb dL_law_1837 (by decide) h9) dL_law_1838 dL_law_1839 ?_
  refine lv_if_eq (tgt := 1847) hx hb dL_law_1840 (by decide) (fun hz => ?_) (fun hz => ?_)
  · rw [if_pos hz] at hfX hfM
    refine lv_iconst (v := 0) hx hb dL_law_1847 (by decide) ?_
    refine lv_aload_n hx hb dL_law_1848 rfl (lv_at hl 3 rfl) ?_
    refine x_wcalli (vx_runSX (hh := [(0, 14, 17, 13), (0, 14, 21, 15), (0, 14, 25, 87)]) (As := [.ref (aX 0), .int (xs (6 * n + 1)), .int (xs (6 * n + 2)), .int (xs (6 * n + 3)), .int 0, .ref ao]) (rest := []) ⟨hx, hb, hml, hown, hts⟩ (mL_mixShare hl0 (E := xEX D aX aM cA g σM) rfl ao cL (xs (6 * n + 1)) (xs (6 * n + 2)) (xs (6 * n + 3)) 0 σX fo o σX1 hfX hk H.size) (vx_cwSW 6 hts gL_law_L_mixShare rfl rfl rfl (by decide +kernel) ⟨Nat.le_of_ble_eq_true rfl, Nat.le_of_ble_eq_true rfl⟩) (x_preW _ hw hA hG hN) rfl rfl hl.1 rfl (lv_room (Nat.le_of_ble_eq_true rfl)) dL_law_1849 ⟨by show cells + 3 ≤ 601024; omega, by show slots + 18 ≤ 7293034; omega⟩) hw hA (fun H locs hw => ?_)
    refine lv_istore (lv' := [(5, .int (xcd 1 2 9 3 o)), (0, .ref b), (1, .ref (aX 0)), (2, .ref (aM 0)), (3, .ref ao), (4, .int (nI (6 * n)))]) hx hb dL_law_1852 hl (by decide) rfl (fun ls hl => ?_)
    refine lv_aload_n hx hb dL_law_1854 rfl (lv_at hl 3 rfl) ?_
    refine x_arg Cx hw.2.2.2 (lv_at hl 1 rfl) (lv_at hl 5 rfl) (k := 1) (by decide) (kv := 1) (by decide) dL_law_1855 dL_law_1856 (fun h9 => lv_iconst (v := 1) hx hb dL_law_1858 (by decide) h9) dL_law_1859 dL_law_1860 ?_
    refine x_arg Cx hw.2.2.2 (lv_at hl 1 rfl) (lv_at hl 5 rfl) (k := 2) (by decide) (kv := 2) (by decide) dL_law_1861 dL_law_1862 (fun h9 => lv_iconst (v := 2) hx hb dL_law_1864 (by decide) h9) dL_law_1865 dL_law_1866 ?_
    refine x_arg Cx hw.2.2.2 (lv_at hl 1 rfl) (lv_at hl 5 rfl) (k := 3) (by decide) (kv := 3) (by decide) dL_law_1867 dL_law_1868 (fun h9 => lv_iconst (v := 3) hx hb dL_law_1870 (by decide) h9) dL_law_1871 dL_law_1872 ?_
    refine x_arg Cx hw.2.2.2 (lv_at hl 1 rfl) (lv_at hl 5 rfl) (k := 4) (by decide) (kv := 4) (by decide) dL_law_1873 dL_law_1874 (fun h9 => lv_iconst (v := 4) hx hb dL_law_1876 (by decide) h9) dL_law_1877 dL_law_1878 ?_
    refine lv_if_eq (tgt := 1886) hx hb dL_law_1879 (by decide) (fun _ => ?_) (fun h9 => absurd hz h9)
    refine lv_iconst (v := 0) hx hb dL_law_1886 (by decide) ?_
    have hwm := xwM hw
    refine x_calli (va_runV (As := [.int (xs (6 * n + 1)), .int (xs (6 * n + 2)), .int (xs (6 * n + 3)), .int 0]) (rest := []) ⟨hx, hb, hml, hown, hts⟩ (mX12_mixShare (E := xEM D aX aM cA g ao cL σX1 (xou fo o)) rfl (xs (6 * n + 1)) (xs (6 * n + 2)) (xs (6 * n + 3)) 0 σM b9 σM1 hfM H.size) (cwV 4 hts gL_law_X12_mixShare rfl rfl rfl (by decide +kernel) ⟨Nat.le_of_ble_eq_true rfl, Nat.le_of_ble_eq_true rfl⟩) (x_preV _ hwm hA hG (cM0 rfl) rfl) rfl rfl hl.1 rfl (lv_room (Nat.le_of_ble_eq_true rfl)) dL_law_1887 ⟨by show cells + 3 + 0 ≤ 601024; omega, by show slots + 18 + 0 ≤ 7293034; omega⟩) hwm hA (fun H locs hwm => ?_)
    have hw := xwX hw.1 hwm
    refine lv_istore (lv' := [(6, .int b9), (5, .int (xcd 1 2 9 3 o)), (0, .ref b), (1, .ref (aX 0)), (2, .ref (aM 0)), (3, .ref ao), (4, .int (nI (6 * n)))]) hx hb dL_law_1890 hl (by decide) rfl (fun ls hl => ?_)
    refine lv_aload_n hx hb dL_law_1892 rfl (lv_at hl 4 rfl) ?_
    have hwm := xwM hw
    refine x_calli (va_runV (As := []) (rest := []) ⟨hx, hb, hml, hown, hts⟩ (mX12_thrown (E := xEM D aX aM cA g ao cL σX1 (xou fo o)) rfl σM1 (σM1 0 0) σM1 (show fX12_thrown σM1 = some (σM1 0 0, σM1) from rfl) H.size) (cwV 0 hts gL_law_X12_thrown rfl rfl rfl (by decide +kernel) ⟨Nat.le_of_ble_eq_true rfl, Nat.le_of_ble_eq_true rfl⟩) (x_preV _ hwm hA hG (cM0 rfl) rfl) rfl rfl hl.1 rfl (lv_room (Nat.le_of_ble_eq_true rfl)) dL_law_1893 ⟨by show cells + 3 + 0 ≤ 601024; omega, by show slots + 18 + 0 ≤ 7293034; omega⟩) hwm hA (fun H locs hwm => ?_)
    have hw := xwX hw.1 hwm
    refine lv_iload hx hb dL_law_1896 (lv_at hl 1 rfl) ?_
    refine lv_icmp_eq (tgt := 1903) hx hb dL_law_1898 (by decide) (fun _ => ?_) (fun h9 => absurd hth h9)
    refine lv_iload hx hb dL_law_1903 (lv_at hl 1 rfl) ?_
    cases o with
    | inl v =>
      · refine lv_if_ne (tgt := 1920) hx hb dL_law_1905 (by decide) (fun h9 => absurd rfl h9) (fun _ => ?_)
        refine lv_aload_n hx hb dL_law_1908 rfl (lv_at hl 5 rfl) ?_
        refine lv_iconst (v := 0) hx hb dL_law_1909 (by decide) ?_
        refine x_wlald hx hb hw dL_law_1910 ?_
        refine lv_iload hx hb dL_law_1911 (lv_at hl 0 rfl) ?_
        refine lv_i2l hx hb dL_law_1913 rfl ?_
        refine W.lcmp hx hb dL_law_1914 ?_
        refine lv_if_eq (tgt := 1920) hx hb dL_law_1915 (by decide) (fun _ => ?_) (fun h9 => absurd ((lg_cmp_eq _ _).mpr (by rw [ha v rfl]; rfl)) h9)
        refine lv_goto (tgt := 2908) hx hb dL_law_1920 (by decide) ?_
        refine W.widen (k := cells + 20) (n := slots + 120) (by omega) (by omega) ?_
        exact kk _ _ _ hw (lv_sub hl [2, 3, 4, 5, 6] rfl)
    | inr k =>
      · refine lv_if_ne (tgt := 1920) hx hb dL_law_1905 (by decide) (fun _ => ?_) (fun h9 => absurd h9 (xcd_ne (by decide) (by decide) (by decide) (by decide)))
        refine lv_goto (tgt := 2908) hx hb dL_law_1920 (by decide) ?_
        refine W.widen (k := cells + 20) (n := slots + 120) (by omega) (by omega) ?_
        exact kk _ _ _ hw (lv_sub hl [2, 3, 4, 5, 6] rfl)
  · rw [if_neg hz] at hfX hfM
    refine lv_iconst (v := 1) hx hb dL_law_1843 (by decide) ?_
    refine lv_goto (tgt := 1848) hx hb dL_law_1844 (by decide) ?_
    refine lv_aload_n hx hb dL_law_1848 rfl (lv_at hl 3 rfl) ?_
    refine x_wcalli (vx_runSX (hh := [(0, 14, 17, 13), (0, 14, 21, 15), (0, 14, 25, 87)]) (As := [.ref (aX 0), .int (xs (6 * n + 1)), .int (xs (6 * n + 2)), .int (xs (6 * n + 3)), .int 1, .ref ao]) (rest := []) ⟨hx, hb, hml, hown, hts⟩ (mL_mixShare hl0 (E := xEX D aX aM cA g σM) rfl ao cL (xs (6 * n + 1)) (xs (6 * n + 2)) (xs (6 * n + 3)) 1 σX fo o σX1 hfX hk H.size) (vx_cwSW 6 hts gL_law_L_mixShare rfl rfl rfl (by decide +kernel) ⟨Nat.le_of_ble_eq_true rfl, Nat.le_of_ble_eq_true rfl⟩) (x_preW _ hw hA hG hN) rfl rfl hl.1 rfl (lv_room (Nat.le_of_ble_eq_true rfl)) dL_law_1849 ⟨by show cells + 3 ≤ 601024; omega, by show slots + 18 ≤ 7293034; omega⟩) hw hA (fun H locs hw => ?_)
    refine lv_istore (lv' := [(5, .int (xcd 1 2 9 3 o)), (0, .ref b), (1, .ref (aX 0)), (2, .ref (aM 0)), (3, .ref ao), (4, .int (nI (6 * n)))]) hx hb dL_law_1852 hl (by decide) rfl (fun ls hl => ?_)
    refine lv_aload_n hx hb dL_law_1854 rfl (lv_at hl 3 rfl) ?_
    refine x_arg Cx hw.2.2.2 (lv_at hl 1 rfl) (lv_at hl 5 rfl) (k := 1) (by decide) (kv := 1) (by decide) dL_law_1855 dL_law_1856 (fun h9 => lv_iconst (v := 1) hx hb dL_law_1858 (by decide) h9) dL_law_1859 dL_law_1860 ?_
    refine x_arg Cx hw.2.2.2 (lv_at hl 1 rfl) (lv_at hl 5 rfl) (k := 2) (by decide) (kv := 2) (by decide) dL_law_1861 dL_law_1862 (fun h9 => lv_iconst (v := 2) hx hb dL_law_1864 (by decide) h9) dL_law_1865 dL_law_1866 ?_
    refine x_arg Cx hw.2.2.2 (lv_at hl 1 rfl) (lv_at hl 5 rfl) (k := 3) (by decide) (kv := 3) (by decide) dL_law_1867 dL_law_1868 (fun h9 => lv_iconst (v := 3) hx hb dL_law_1870 (by decide) h9) dL_law_1871 dL_law_1872 ?_
    refine x_arg Cx hw.2.2.2 (lv_at hl 1 rfl) (lv_at hl 5 rfl) (k := 4) (by decide) (kv := 4) (by decide) dL_law_1873 dL_law_1874 (fun h9 => lv_iconst (v := 4) hx hb dL_law_1876 (by decide) h9) dL_law_1877 dL_law_1878 ?_
    refine lv_if_eq (tgt := 1886) hx hb dL_law_1879 (by decide) (fun h9 => absurd h9 hz) (fun _ => ?_)
    refine lv_iconst (v := 1) hx hb dL_law_1882 (by decide) ?_
    refine lv_goto (tgt := 1887) hx hb dL_law_1883 (by decide) ?_
    have hwm := xwM hw
    refine x_calli (va_runV (As := [.int (xs (6 * n + 1)), .int (xs (6 * n + 2)), .int (xs (6 * n + 3)), .int 1]) (rest := []) ⟨hx, hb, hml, hown, hts⟩ (mX12_mixShare (E := xEM D aX aM cA g ao cL σX1 (xou fo o)) rfl (xs (6 * n + 1)) (xs (6 * n + 2)) (xs (6 * n + 3)) 1 σM b9 σM1 hfM H.size) (cwV 4 hts gL_law_X12_mixShare rfl rfl rfl (by decide +kernel) ⟨Nat.le_of_ble_eq_true rfl, Nat.le_of_ble_eq_true rfl⟩) (x_preV _ hwm hA hG (cM0 rfl) rfl) rfl rfl hl.1 rfl (lv_room (Nat.le_of_ble_eq_true rfl)) dL_law_1887 ⟨by show cells + 3 + 0 ≤ 601024; omega, by show slots + 18 + 0 ≤ 7293034; omega⟩) hwm hA (fun H locs hwm => ?_)
    have hw := xwX hw.1 hwm
    refine lv_istore (lv' := [(6, .int b9), (5, .int (xcd 1 2 9 3 o)), (0, .ref b), (1, .ref (aX 0)), (2, .ref (aM 0)), (3, .ref ao), (4, .int (nI (6 * n)))]) hx hb dL_law_1890 hl (by decide) rfl (fun ls hl => ?_)
    refine lv_aload_n hx hb dL_law_1892 rfl (lv_at hl 4 rfl) ?_
    have hwm := xwM hw
    refine x_calli (va_runV (As := []) (rest := []) ⟨hx, hb, hml, hown, hts⟩ (mX12_thrown (E := xEM D aX aM cA g ao cL σX1 (xou fo o)) rfl σM1 (σM1 0 0) σM1 (show fX12_thrown σM1 = some (σM1 0 0, σM1) from rfl) H.size) (cwV 0 hts gL_law_X12_thrown rfl rfl rfl (by decide +kernel) ⟨Nat.le_of_ble_eq_true rfl, Nat.le_of_ble_eq_true rfl⟩) (x_preV _ hwm hA hG (cM0 rfl) rfl) rfl rfl hl.1 rfl (lv_room (Nat.le_of_ble_eq_true rfl)) dL_law_1893 ⟨by show cells + 3 + 0 ≤ 601024; omega, by show slots + 18 + 0 ≤ 7293034; omega⟩) hwm hA (fun H locs hwm => ?_)
    have hw := xwX hw.1 hwm
    refine lv_iload hx hb dL_law_1896 (lv_at hl 1 rfl) ?_
    refine lv_icmp_eq (tgt := 1903) hx hb dL_law_1898 (by decide) (fun _ => ?_) (fun h9 => absurd hth h9)
    refine lv_iload hx hb dL_law_1903 (lv_at hl 1 rfl) ?_
    cases o with
    | inl v =>
      · refine lv_if_ne (tgt := 1920) hx hb dL_law_1905 (by decide) (fun h9 => absurd rfl h9) (fun _ => ?_)
        refine lv_aload_n hx hb dL_law_1908 rfl (lv_at hl 5 rfl) ?_
        refine lv_iconst (v := 0) hx hb dL_law_1909 (by decide) ?_
        refine x_wlald hx hb hw dL_law_1910 ?_
        refine lv_iload hx hb dL_law_1911 (lv_at hl 0 rfl) ?_
        refine lv_i2l hx hb dL_law_1913 rfl ?_
        refine W.lcmp hx hb dL_law_1914 ?_
        refine lv_if_eq (tgt := 1920) hx hb dL_law_1915 (by decide) (fun _ => ?_) (fun h9 => absurd ((lg_cmp_eq _ _).mpr (by rw [ha v rfl]; rfl)) h9)
        refine lv_goto (tgt := 2908) hx hb dL_law_1920 (by decide) ?_
        refine W.widen (k := cells + 20) (n := slots + 120) (by omega) (by omega) ?_
        exact kk _ _ _ hw (lv_sub hl [2, 3, 4, 5, 6] rfl)
    | inr k =>
      · refine lv_if_ne (tgt := 1920) hx hb dL_law_1905 (by decide) (fun _ => ?_) (fun h9 => absurd h9 (xcd_ne (by decide) (by decide) (by decide) (by decide)))
        refine lv_goto (tgt := 2908) hx hb dL_law_1920 (by decide) ?_
        refine W.widen (k := cells + 20) (n := slots + 120) (by omega) (by omega) ?_
        exact kk _ _ _ hw (lv_sub hl [2, 3, 4, 5, 6] rfl)

set_option maxRecDepth 100000 in
set_option maxHeartbeats 4000000 in
theorem lawc_30 {p : Program} {l : Launch} {e : Env} {t : State} {m : MethodId} {args : Array Value} {below : List Frame} {meth : Method} {c : Code} {Q : State → Prop} {H : Heap} {locs : List Loc} {cells slots b L n : Nat} {xs : Nat → Int32} {A : Nat → Prop} {D : va_G} {aX aM : Nat → Nat} {cA cL : ClassId} {ao : Nat} {g : Nat × Nat × (Nat → Nat)} {σX σM : xSt} {fo : Nat → Int64} {ls : Array Slot} (hl0 : l.stackTraces = false) (Cx : xLC p t m args c b L n xs A g) (hw : xwW (xEX D aX aM cA g σM) ao cL A t.heap t σX fo H locs) (hl : lv_has ls 9 (xLl b (aX 0) (aM 0) ao (nI (6 * n)))) (hcs : cells + 20 ≤ 601024 ∧ slots + 120 ≤ 7293034) (o : xO) (b9 : Int32) (σX1 σM1 : xSt) (hfX : fX11_note (xs (6 * n + 1)) (xs (6 * n + 2)) σX = some (o, σX1)) (hk : ∀ k, o = .inr k → k = 0 ∨ k = 1 ∨ k = 2) (hfM : fX12_note (xs (6 * n + 1)) (xs (6 * n + 2)) σM = some (b9, σM1)) (hth : σM1 0 0 = xcd 1 2 3 9 o) (ha : ∀ v, o = .inl v → v = b9) (kk : ∀ (H : Heap) (locs : List Loc) (ls : Array Slot), xwW (xEX D aX aM cA g σM1) ao cL A t.heap t σX1 (xou fo o) H locs → lv_has ls 9 (xLl b (aX 0) (aM 0) ao (nI (6 * n))) → W p l e room_1 t m args below meth c H locs (cells + 20) (slots + 120) Q (F0 m 2908 ls [])) : W p l e room_1 t m args below meth c H locs cells slots Q (F0 m 1923 ls []) := by
  obtain ⟨hx, hb, hml, hown, hts, hXs, hbl, hn, hA, hbA, hG, hN⟩ := id Cx
  refine lv_aload_n hx hb dL_law_1923 rfl (lv_at hl 1 rfl) ?_
  refine x_arg Cx hw.2.2.2 (lv_at hl 0 rfl) (lv_at hl 4 rfl) (k := 1) (by decide) (kv := 1) (by decide) dL_law_1924 dL_law_1925 (fun h9 => lv_iconst (v := 1) hx hb dL_law_1927 (by decide) h9) dL_law_1928 dL_law_1929 ?_
  refine x_arg Cx hw.2.2.2 (lv_at hl 0 rfl) (lv_at hl 4 rfl) (k := 2) (by decide) (kv := 2) (by decide) dL_law_1930 dL_law_1931 (fun h9 => lv_iconst (v := 2) hx hb dL_law_1933 (by decide) h9) dL_law_1934 dL_law_1935 ?_
  refine lv_aload_n hx hb dL_law_1936 rfl (lv_at hl 3 rfl) ?_
  refine x_wcalli (vx_runSX (hh := [(0, 10, 13, 13), (0, 10, 17, 15), (0, 10, 21, 17)]) (As := [.ref (aX 0), .int (xs (6 * n + 1)), .int (xs (6 * n + 2)), .ref ao]) (rest := []) ⟨hx, hb, hml, hown, hts⟩ (mL_note hl0 (E := xEX D aX aM cA g σM) rfl ao cL (xs (6 * n + 1)) (xs (6 * n + 2)) σX fo o σX1 hfX hk H.size) (vx_cwSW 4 hts gL_law_L_note rfl rfl rfl (by decide +kernel) ⟨Nat.le_of_ble_eq_true rfl, Nat.le_of_ble_eq_true rfl⟩) (x_preW _ hw hA hG hN) rfl rfl hl.1 rfl (lv_room (Nat.le_of_ble_eq_true rfl)) dL_law_1937 ⟨by show cells + 3 ≤ 601024; omega, by show slots + 18 ≤ 7293034; omega⟩) hw hA (fun H locs hw => ?_)
  refine lv_istore (lv' := [(5, .int (xcd 1 2 3 9 o)), (0, .ref b), (1, .ref (aX 0)), (2, .ref (aM 0)), (3, .ref ao), (4, .int (nI (6 * n)))]) hx hb dL_law_1940 hl (by decide) rfl (fun ls hl => ?_)
  refine lv_aload_n hx hb dL_law_1942 rfl (lv_at hl 3 rfl) ?_
  refine x_arg Cx hw.2.2.2 (lv_at hl 1 rfl) (lv_at hl 5 rfl) (k := 1) (by decide) (kv := 1) (by decide) dL_law_1943 dL_law_1944 (fun h9 => lv_iconst (v := 1) hx hb dL_law_1946 (by decide) h9) dL_law_1947 dL_law_1948 ?_
  refine x_arg Cx hw.2.2.2 (lv_at hl 1 rfl) (lv_at hl 5 rfl) (k := 2) (by decide) (kv := 2) (by decide) dL_law_1949 dL_law_1950 (fun h9 => lv_iconst (v := 2) hx hb dL_law_1952 (by decide) h9) dL_law_1953 dL_law_1954 ?_
  have hwm := xwM hw
  refine x_calli (va_runV (As := [.int (xs (6 * n + 1)), .int (xs (6 * n + 2))]) (rest := []) ⟨hx, hb, hml, hown, hts⟩ (mX12_note (E := xEM D aX aM cA g ao cL σX1 (xou fo o)) rfl (xs (6 * n + 1)) (xs (6 * n + 2)) σM b9 σM1 hfM H.size) (cwV 2 hts gL_law_X12_note rfl rfl rfl (by decide +kernel) ⟨Nat.le_of_ble_eq_true rfl, Nat.le_of_ble_eq_true rfl⟩) (x_preV _ hwm hA hG (cM0 rfl) rfl) rfl rfl hl.1 rfl (lv_room (Nat.le_of_ble_eq_true rfl)) dL_law_1955 ⟨by show cells + 3 + 0 ≤ 601024; omega, by show slots + 18 + 0 ≤ 7293034; omega⟩) hwm hA (fun H locs hwm => ?_)
  have hw := xwX hw.1 hwm
  refine lv_istore (lv' := [(6, .int b9), (5, .int (xcd 1 2 3 9 o)), (0, .ref b), (1, .ref (aX 0)), (2, .ref (aM 0)), (3, .ref ao), (4, .int (nI (6 * n)))]) hx hb dL_law_1958 hl (by decide) rfl (fun ls hl => ?_)
  refine lv_aload_n hx hb dL_law_1960 rfl (lv_at hl 4 rfl) ?_
  have hwm := xwM hw
  refine x_calli (va_runV (As := []) (rest := []) ⟨hx, hb, hml, hown, hts⟩ (mX12_thrown (E := xEM D aX aM cA g ao cL σX1 (xou fo o)) rfl σM1 (σM1 0 0) σM1 (show fX12_thrown σM1 = some (σM1 0 0, σM1) from rfl) H.size) (cwV 0 hts gL_law_X12_thrown rfl rfl rfl (by decide +kernel) ⟨Nat.le_of_ble_eq_true rfl, Nat.le_of_ble_eq_true rfl⟩) (x_preV _ hwm hA hG (cM0 rfl) rfl) rfl rfl hl.1 rfl (lv_room (Nat.le_of_ble_eq_true rfl)) dL_law_1961 ⟨by show cells + 3 + 0 ≤ 601024; omega, by show slots + 18 + 0 ≤ 7293034; omega⟩) hwm hA (fun H locs hwm => ?_)
  have hw := xwX hw.1 hwm
  refine lv_iload hx hb dL_law_1964 (lv_at hl 1 rfl) ?_
  refine lv_icmp_eq (tgt := 1971) hx hb dL_law_1966 (by decide) (fun _ => ?_) (fun h9 => absurd hth h9)
  refine lv_iload hx hb dL_law_1971 (lv_at hl 1 rfl) ?_
  cases o with
  | inl v =>
    · refine lv_if_ne (tgt := 1988) hx hb dL_law_1973 (by decide) (fun h9 => absurd rfl h9) (fun _ => ?_)
      refine lv_aload_n hx hb dL_law_1976 rfl (lv_at hl 5 rfl) ?_
      refine lv_iconst (v := 0) hx hb dL_law_1977 (by decide) ?_
      refine x_wlald hx hb hw dL_law_1978 ?_
      refine lv_iload hx hb dL_law_1979 (lv_at hl 0 rfl) ?_
      refine lv_i2l hx hb dL_law_1981 rfl ?_
      refine W.lcmp hx hb dL_law_1982 ?_
      refine lv_if_eq (tgt := 1988) hx hb dL_law_1983 (by decide) (fun _ => ?_) (fun h9 => absurd ((lg_cmp_eq _ _).mpr (by rw [ha v rfl]; rfl)) h9)
      refine lv_goto (tgt := 2908) hx hb dL_law_1988 (by decide) ?_
      refine W.widen (k := cells + 20) (n := slots + 120) (by omega) (by omega) ?_
      exact kk _ _ _ hw (lv_sub hl [2, 3, 4, 5, 6] rfl)
  | inr k =>
    · refine lv_if_ne (tgt := 1988) hx hb dL_law_1973 (by decide) (fun _ => ?_) (fun h9 => absurd h9 (xcd_ne (by decide) (by decide) (by decide) (by decide)))
      refine lv_goto (tgt := 2908) hx hb dL_law_1988 (by decide) ?_
      refine W.widen (k := cells + 20) (n := slots + 120) (by omega) (by omega) ?_
      exact kk _ _ _ hw (lv_sub hl [2, 3, 4, 5, 6] rfl)
