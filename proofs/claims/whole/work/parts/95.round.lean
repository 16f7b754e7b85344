/-! ===== THE LAW'S ROUND AND ITS LOOP ===== -/
theorem x_up {z k : Int} (h : k ≤ z) (c : ¬ z = k) : k + 1 ≤ z := by omega
set_option maxRecDepth 100000 in
set_option maxHeartbeats 16000000 in
theorem law_round {p : Program} {l : Launch} {e : Env} {t : State} {m : MethodId} {args : Array Value} {below : List Frame} {meth : Method} {c : Code} {Q : State → Prop} {H : Heap} {locs : List Loc} {cells slots b L n : Nat} {xs : Nat → Int32} {A : Nat → Prop} {D : va_G} {aX aM : Nat → Nat} {cA cL : ClassId} {ao : Nat} {g : Nat × Nat × (Nat → Nat)} {σX σM : xSt} {fo : Nat → Int64} {ls : Array Slot} (hl0 : l.stackTraces = false) (Cx : xLC p t m args c b L n xs A g) (hw : xwW (xEX D aX aM cA g σM) ao cL A t.heap t σX fo H locs) (hl : lv_has ls 9 (xLl b (aX 0) (aM 0) ao (nI (6 * n)))) (hcs : cells + 20 ≤ 601024 ∧ slots + 120 ≤ 7293034) {HH : List sS} {s9 : sS} {tx : (Nat → Int32) × Nat} (hX9 : RX σX (HH, s9, tx)) (hM9 : RM σM (HH, s9, tx)) (hG9 : GH n (HH, s9, tx)) (hN9 : n ≤ 1000) (kk : ∀ (H : Heap) (locs : List Loc) (ls : Array Slot) (d1 : Drawn) (σX1 σM1 : xSt) (fo1 : Nat → Int64) (a1 : xA), t.drawn.sameBut d1 lw_cs → RX σX1 a1 → RM σM1 a1 → GH (n + 1) a1 → xwW (xEX D aX aM cA g σM1) ao cL A t.heap (t.setDrawn d1) σX1 fo1 H locs → lv_has ls 9 (xLl b (aX 0) (aM 0) ao (nI (6 * n))) → W p l e room_1 (t.setDrawn d1) m args below meth c H locs (cells + 20) (slots + 120) Q (F0 m 2908 ls [])) : W p l e room_1 t m args below meth c H locs cells slots Q (F0 m 33 ls []) := by
  have k0 : ∀ (H : Heap) (locs : List Loc) (ls : Array Slot) (σX1 σM1 : xSt) (fo1 : Nat → Int64) (a1 : xA), RX σX1 a1 → RM σM1 a1 → GH (n + 1) a1 → xwW (xEX D aX aM cA g σM1) ao cL A t.heap t σX1 fo1 H locs → lv_has ls 9 (xLl b (aX 0) (aM 0) ao (nI (6 * n))) → W p l e room_1 t m args below meth c H locs (cells + 20) (slots + 120) Q (F0 m 2908 ls []) := fun H locs ls σX1 σM1 fo1 a1 r1 r2 r3 hw hl => kk H locs ls t.drawn σX1 σM1 fo1 a1 (Drawn.sameBut.refl t.drawn lw_cs) r1 r2 r3 hw hl
  obtain ⟨hx, hb, hml, hown, hts, hXs, hbl, hn, hA, hbA, hG, hN⟩ := id Cx
  refine lv_aload_n hx hb dL_law_33 rfl (lv_at hl 0 rfl) ?_
  refine lv_iload hx hb dL_law_34 (lv_at hl 4 rfl) ?_
  refine va_sld hx hb hXs hbl hbA hw.2.2.2 (vp_in_nI (n := 6 * n) (by omega) (by omega)) dL_law_36 ?_
  rw [nI_clamp (by omega)]
  refine lv_bipush (v := 63) hx hb dL_law_37 (by decide) ?_
  refine lv_iand hx hb dL_law_39 ?_
  have hz := Jvm.Kit.i32_mask (xs (6 * n)) 63 (k := 6) (by decide) (by decide)
  generalize xs (6 * n) &&& 63 = z at hz ⊢
  have u0 : (0 : Int) ≤ z.toInt := by
    rw [hz]
    exact Int.emod_nonneg _ (by decide)
  by_cases c0 : z.toInt = 0
  · refine lv_tableIn (off := 208) (tgt := 248) hx hb dL_law_40 (by rw [c0]; decide) (by rw [c0]; decide) (by rw [c0]; rfl) (by decide) ?_
    obtain ⟨o, b9, σ1, τ1, a1, e1, e2, e3, e4, e5, r1, r2, g9⟩ := P_receive hX9 hM9 hG9 hN9 (xs (6 * n + 1)) (xs (6 * n + 2))
    exact lawc_0 hl0 Cx hw hl hcs o b9 σ1 τ1 e1 e3 e2 e4 e5 (fun H locs ls hw hl => k0 H locs ls σ1 τ1 _ a1 r1 r2 g9 hw hl)
  have u1 : (1 : Int) ≤ z.toInt := x_up u0 c0
  by_cases c1 : z.toInt = 1
  · refine lv_tableIn (off := 276) (tgt := 316) hx hb dL_law_40 (by rw [c1]; decide) (by rw [c1]; decide) (by rw [c1]; rfl) (by decide) ?_
    obtain ⟨o, b9, σ1, τ1, a1, e1, e2, e3, e4, e5, r1, r2, g9⟩ := P_store hX9 hM9 hG9 hN9 (xs (6 * n + 1))
    exact lawc_1 hl0 Cx hw hl hcs o b9 σ1 τ1 e1 e3 e2 e4 e5 (fun H locs ls hw hl => k0 H locs ls σ1 τ1 _ a1 r1 r2 g9 hw hl)
  have u2 : (2 : Int) ≤ z.toInt := x_up u1 c1
  by_cases c2 : z.toInt = 2
  · refine lv_tableIn (off := 332) (tgt := 372) hx hb dL_law_40 (by rw [c2]; decide) (by rw [c2]; decide) (by rw [c2]; rfl) (by decide) ?_
    obtain ⟨o, b9, σ1, τ1, a1, e1, e2, e3, e4, e5, r1, r2, g9⟩ := P_addRecipe hX9 hM9 hG9 hN9 (xs (6 * n + 1)) (xs (6 * n + 2)) (xs (6 * n + 3)) (xs (6 * n + 4)) (xs (6 * n + 5))
    exact lawc_2 hl0 Cx hw hl hcs o b9 σ1 τ1 e1 e3 e2 e4 e5 (fun H locs ls hw hl => k0 H locs ls σ1 τ1 _ a1 r1 r2 g9 hw hl)
  have u3 : (3 : Int) ≤ z.toInt := x_up u2 c2
  by_cases c3 : z.toInt = 3
  · refine lv_tableIn (off := 436) (tgt := 476) hx hb dL_law_40 (by rw [c3]; decide) (by rw [c3]; decide) (by rw [c3]; rfl) (by decide) ?_
    obtain ⟨o, b9, σ1, τ1, a1, e1, e2, e3, e4, e5, r1, r2, g9⟩ := P_setWait hX9 hM9 hG9 hN9 (xs (6 * n + 1)) (xs (6 * n + 2))
    exact lawc_3 hl0 Cx hw hl hcs o b9 σ1 τ1 e1 e3 e2 e4 e5 (fun H locs ls hw hl => k0 H locs ls σ1 τ1 _ a1 r1 r2 g9 hw hl)
  have u4 : (4 : Int) ≤ z.toInt := x_up u3 c3
  by_cases c4 : z.toInt = 4
  · refine lv_tableIn (off := 504) (tgt := 544) hx hb dL_law_40 (by rw [c4]; decide) (by rw [c4]; decide) (by rw [c4]; rfl) (by decide) ?_
    obtain ⟨o, b9, σ1, τ1, a1, e1, e2, e3, e4, e5, r1, r2, g9⟩ := P_setPart hX9 hM9 hG9 hN9 (xs (6 * n + 1)) (xs (6 * n + 2)) (xs (6 * n + 3))
    exact lawc_4 hl0 Cx hw hl hcs o b9 σ1 τ1 e1 e3 e2 e4 e5 (fun H locs ls hw hl => k0 H locs ls σ1 τ1 _ a1 r1 r2 g9 hw hl)
  have u5 : (5 : Int) ≤ z.toInt := x_up u4 c4
  by_cases c5 : z.toInt = 5
  · refine lv_tableIn (off := 584) (tgt := 624) hx hb dL_law_40 (by rw [c5]; decide) (by rw [c5]; decide) (by rw [c5]; rfl) (by decide) ?_
    obtain ⟨o, b9, σ1, τ1, a1, e1, e2, e3, e4, e5, r1, r2, g9⟩ := P_readParts hX9 hM9 hG9 hN9 (xs (6 * n + 1))
    exact lawc_5 hl0 Cx hw hl hcs o b9 σ1 τ1 e1 e3 e2 e4 e5 (fun H locs ls hw hl => k0 H locs ls σ1 τ1 _ a1 r1 r2 g9 hw hl)
  have u6 : (6 : Int) ≤ z.toInt := x_up u5 c5
  by_cases c6 : z.toInt = 6
  · refine lv_tableIn (off := 640) (tgt := 680) hx hb dL_law_40 (by rw [c6]; decide) (by rw [c6]; decide) (by rw [c6]; rfl) (by decide) ?_
    obtain ⟨o, b9, σ1, τ1, a1, e1, e2, e3, e4, e5, r1, r2, g9⟩ := P_amount hX9 hM9 hG9 hN9 (xs (6 * n + 1)) (xs (6 * n + 2)) (xs (6 * n + 3))
    exact lawc_6 hl0 Cx hw hl hcs o b9 σ1 τ1 e1 e3 e2 e4 e5 (fun H locs ls hw hl => k0 H locs ls σ1 τ1 _ a1 r1 r2 g9 hw hl)
  have u7 : (7 : Int) ≤ z.toInt := x_up u6 c6
  by_cases c7 : z.toInt = 7
  · refine lv_tableIn (off := 720) (tgt := 760) hx hb dL_law_40 (by rw [c7]; decide) (by rw [c7]; decide) (by rw [c7]; rfl) (by decide) ?_
    obtain ⟨v, σ1, τ1, a1, e1, e2, r1, r2, g9⟩ := P_recipeCount hX9 hM9 hG9 hN9
    exact lawc_7 hl0 Cx hw hl hcs v v σ1 τ1 e1 e2 rfl (fun H locs ls hw hl => k0 H locs ls σ1 τ1 _ a1 r1 r2 g9 hw hl)
  have u8 : (8 : Int) ≤ z.toInt := x_up u7 c7
  by_cases c8 : z.toInt = 8
  · refine lv_tableIn (off := 733) (tgt := 773) hx hb dL_law_40 (by rw [c8]; decide) (by rw [c8]; decide) (by rw [c8]; rfl) (by decide) ?_
    obtain ⟨o, b9, σ1, τ1, a1, e1, e2, e3, e4, e5, r1, r2, g9⟩ := P_mix hX9 hM9 hG9 hN9 (xs (6 * n + 1)) (xs (6 * n + 2))
    exact lawc_8 hl0 Cx hw hl hcs o b9 σ1 τ1 e1 e3 e2 e4 e5 (fun H locs ls hw hl => k0 H locs ls σ1 τ1 _ a1 r1 r2 g9 hw hl)
  have u9 : (9 : Int) ≤ z.toInt := x_up u8 c8
  by_cases c9 : z.toInt = 9
  · refine lv_tableIn (off := 801) (tgt := 841) hx hb dL_law_40 (by rw [c9]; decide) (by rw [c9]; decide) (by rw [c9]; rfl) (by decide) ?_
    obtain ⟨o, b9, σ1, τ1, a1, e1, e2, e3, e4, e5, r1, r2, g9⟩ := P_setWarmth hX9 hM9 hG9 hN9 (xs (6 * n + 1))
    exact lawc_9 hl0 Cx hw hl hcs o b9 σ1 τ1 e1 e3 e2 e4 e5 (fun H locs ls hw hl => k0 H locs ls σ1 τ1 _ a1 r1 r2 g9 hw hl)
  have u10 : (10 : Int) ≤ z.toInt := x_up u9 c9
  by_cases c10 : z.toInt = 10
  · refine lv_tableIn (off := 857) (tgt := 897) hx hb dL_law_40 (by rw [c10]; decide) (by rw [c10]; decide) (by rw [c10]; rfl) (by decide) ?_
    obtain ⟨o, b9, σ1, τ1, a1, e1, e2, e3, e4, e5, r1, r2, g9⟩ := P_pass hX9 hM9 hG9 hN9 (xs (6 * n + 1))
    exact lawc_10 hl0 Cx hw hl hcs o b9 σ1 τ1 e1 e3 e2 e4 e5 (fun H locs ls hw hl => k0 H locs ls σ1 τ1 _ a1 r1 r2 g9 hw hl)
  have u11 : (11 : Int) ≤ z.toInt := x_up u10 c10
  by_cases c11 : z.toInt = 11
  · refine lv_tableIn (off := 913) (tgt := 953) hx hb dL_law_40 (by rw [c11]; decide) (by rw [c11]; decide) (by rw [c11]; rfl) (by decide) ?_
    obtain ⟨v, σ1, τ1, a1, e1, e2, r1, r2, g9⟩ := P_now hX9 hM9 hG9 hN9
    exact lawc_11 hl0 Cx hw hl hcs v v σ1 τ1 e1 e2 rfl (fun H locs ls hw hl => k0 H locs ls σ1 τ1 _ a1 r1 r2 g9 hw hl)
  have u12 : (12 : Int) ≤ z.toInt := x_up u11 c11
  by_cases c12 : z.toInt = 12
  · refine lv_tableIn (off := 926) (tgt := 966) hx hb dL_law_40 (by rw [c12]; decide) (by rw [c12]; decide) (by rw [c12]; rfl) (by decide) ?_
    obtain ⟨o, b9, σ1, τ1, a1, e1, e2, e3, e4, e5, r1, r2, g9⟩ := P_shape hX9 hM9 hG9 hN9 (xs (6 * n + 1))
    exact lawc_12 hl0 Cx hw hl hcs o b9 σ1 τ1 e1 e3 e2 e4 e5 (fun H locs ls hw hl => k0 H locs ls σ1 τ1 _ a1 r1 r2 g9 hw hl)
  have u13 : (13 : Int) ≤ z.toInt := x_up u12 c12
  by_cases c13 : z.toInt = 13
  · refine lv_tableIn (off := 982) (tgt := 1022) hx hb dL_law_40 (by rw [c13]; decide) (by rw [c13]; decide) (by rw [c13]; rfl) (by decide) ?_
    obtain ⟨o, b9, σ1, τ1, a1, e1, e2, e3, e4, e5, r1, r2, g9⟩ := P_doughAt hX9 hM9 hG9 hN9 (xs (6 * n + 1)) (xs (6 * n + 2))
    exact lawc_13 hl0 Cx hw hl hcs o b9 σ1 τ1 e1 e3 e2 e4 e5 (fun H locs ls hw hl => k0 H locs ls σ1 τ1 _ a1 r1 r2 g9 hw hl)
  have u14 : (14 : Int) ≤ z.toInt := x_up u13 c13
  by_cases c14 : z.toInt = 14
  · refine lv_tableIn (off := 1050) (tgt := 1090) hx hb dL_law_40 (by rw [c14]; decide) (by rw [c14]; decide) (by rw [c14]; rfl) (by decide) ?_
    obtain ⟨o, b9, σ1, τ1, a1, e1, e2, e3, e4, e5, r1, r2, g9⟩ := P_throwAway hX9 hM9 hG9 hN9 (xs (6 * n + 1))
    exact lawc_14 hl0 Cx hw hl hcs o b9 σ1 τ1 e1 e3 e2 e4 e5 (fun H locs ls hw hl => k0 H locs ls σ1 τ1 _ a1 r1 r2 g9 hw hl)
  have u15 : (15 : Int) ≤ z.toInt := x_up u14 c14
  by_cases c15 : z.toInt = 15
  · refine lv_tableIn (off := 1106) (tgt := 1146) hx hb dL_law_40 (by rw [c15]; decide) (by rw [c15]; decide) (by rw [c15]; rfl) (by decide) ?_
    obtain ⟨v, σ1, τ1, a1, e1, e2, r1, r2, g9⟩ := P_doughCount hX9 hM9 hG9 hN9
    exact lawc_15 hl0 Cx hw hl hcs v v σ1 τ1 e1 e2 rfl (fun H locs ls hw hl => k0 H locs ls σ1 τ1 _ a1 r1 r2 g9 hw hl)
  have u16 : (16 : Int) ≤ z.toInt := x_up u15 c15
  by_cases c16 : z.toInt = 16
  · refine lv_tableIn (off := 1119) (tgt := 1159) hx hb dL_law_40 (by rw [c16]; decide) (by rw [c16]; decide) (by rw [c16]; rfl) (by decide) ?_
    obtain ⟨o, b9, σ1, τ1, a1, e1, e2, e3, e4, e5, r1, r2, g9⟩ := P_setHeat hX9 hM9 hG9 hN9 (xs (6 * n + 1))
    exact lawc_16 hl0 Cx hw hl hcs o b9 σ1 τ1 e1 e3 e2 e4 e5 (fun H locs ls hw hl => k0 H locs ls σ1 τ1 _ a1 r1 r2 g9 hw hl)
  have u17 : (17 : Int) ≤ z.toInt := x_up u16 c16
  by_cases c17 : z.toInt = 17
  · refine lv_tableIn (off := 1175) (tgt := 1215) hx hb dL_law_40 (by rw [c17]; decide) (by rw [c17]; decide) (by rw [c17]; rfl) (by decide) ?_
    obtain ⟨v, σ1, τ1, a1, e1, e2, r1, r2, g9⟩ := P_heat hX9 hM9 hG9 hN9
    exact lawc_17 hl0 Cx hw hl hcs v v σ1 τ1 e1 e2 rfl (fun H locs ls hw hl => k0 H locs ls σ1 τ1 _ a1 r1 r2 g9 hw hl)
  have u18 : (18 : Int) ≤ z.toInt := x_up u17 c17
  by_cases c18 : z.toInt = 18
  · refine lv_tableIn (off := 1188) (tgt := 1228) hx hb dL_law_40 (by rw [c18]; decide) (by rw [c18]; decide) (by rw [c18]; rfl) (by decide) ?_
    obtain ⟨o, b9, σ1, τ1, a1, e1, e2, e3, e4, e5, r1, r2, g9⟩ := P_setDecks hX9 hM9 hG9 hN9 (xs (6 * n + 1))
    exact lawc_18 hl0 Cx hw hl hcs o b9 σ1 τ1 e1 e3 e2 e4 e5 (fun H locs ls hw hl => k0 H locs ls σ1 τ1 _ a1 r1 r2 g9 hw hl)
  have u19 : (19 : Int) ≤ z.toInt := x_up u18 c18
  by_cases c19 : z.toInt = 19
  · refine lv_tableIn (off := 1244) (tgt := 1284) hx hb dL_law_40 (by rw [c19]; decide) (by rw [c19]; decide) (by rw [c19]; rfl) (by decide) ?_
    obtain ⟨o, b9, σ1, τ1, a1, e1, e2, e3, e4, e5, r1, r2, g9⟩ := P_bake hX9 hM9 hG9 hN9 (xs (6 * n + 1))
    exact lawc_19 hl0 Cx hw hl hcs o b9 σ1 τ1 e1 e3 e2 e4 e5 (fun H locs ls hw hl => k0 H locs ls σ1 τ1 _ a1 r1 r2 g9 hw hl)
  have u20 : (20 : Int) ≤ z.toInt := x_up u19 c19
  by_cases c20 : z.toInt = 20
  · refine lv_tableIn (off := 1300) (tgt := 1340) hx hb dL_law_40 (by rw [c20]; decide) (by rw [c20]; decide) (by rw [c20]; rfl) (by decide) ?_
    obtain ⟨o, b9, σ1, τ1, a1, e1, e2, e3, e4, e5, r1, r2, g9⟩ := P_planned hX9 hM9 hG9 hN9 (xs (6 * n + 1))
    exact lawc_20 hl0 Cx hw hl hcs o b9 σ1 τ1 e1 e3 e2 e4 e5 (fun H locs ls hw hl => k0 H locs ls σ1 τ1 _ a1 r1 r2 g9 hw hl)
  have u21 : (21 : Int) ≤ z.toInt := x_up u20 c20
  by_cases c21 : z.toInt = 21
  · refine lv_tableIn (off := 1356) (tgt := 1396) hx hb dL_law_40 (by rw [c21]; decide) (by rw [c21]; decide) (by rw [c21]; rfl) (by decide) ?_
    obtain ⟨v, σ1, τ1, a1, e1, e2, r1, r2, g9⟩ := P_inPlan hX9 hM9 hG9 hN9
    exact lawc_21 hl0 Cx hw hl hcs v v σ1 τ1 e1 e2 rfl (fun H locs ls hw hl => k0 H locs ls σ1 τ1 _ a1 r1 r2 g9 hw hl)
  have u22 : (22 : Int) ≤ z.toInt := x_up u21 c21
  by_cases c22 : z.toInt = 22
  · refine lv_tableIn (off := 1369) (tgt := 1409) hx hb dL_law_40 (by rw [c22]; decide) (by rw [c22]; decide) (by rw [c22]; rfl) (by decide) ?_
    obtain ⟨v, σ1, τ1, a1, e1, e2, r1, r2, g9⟩ := P_late hX9 hM9 hG9 hN9
    exact lawc_22 hl0 Cx hw hl hcs v v σ1 τ1 e1 e2 rfl (fun H locs ls hw hl => k0 H locs ls σ1 τ1 _ a1 r1 r2 g9 hw hl)
  have u23 : (23 : Int) ≤ z.toInt := x_up u22 c22
  by_cases c23 : z.toInt = 23
  · refine lv_tableIn (off := 1382) (tgt := 1422) hx hb dL_law_40 (by rw [c23]; decide) (by rw [c23]; decide) (by rw [c23]; rfl) (by decide) ?_
    obtain ⟨o, b9, σ1, τ1, a1, e1, e2, e3, e4, e5, r1, r2, g9⟩ := P_breads hX9 hM9 hG9 hN9 (xs (6 * n + 1)) (xs (6 * n + 2))
    exact lawc_23 hl0 Cx hw hl hcs o b9 σ1 τ1 e1 e3 e2 e4 e5 (fun H locs ls hw hl => k0 H locs ls σ1 τ1 _ a1 r1 r2 g9 hw hl)
  have u24 : (24 : Int) ≤ z.toInt := x_up u23 c23
  by_cases c24 : z.toInt = 24
  · refine lv_tableIn (off := 1450) (tgt := 1490) hx hb dL_law_40 (by rw [c24]; decide) (by rw [c24]; decide) (by rw [c24]; rfl) (by decide) ?_
    obtain ⟨v, σ1, τ1, a1, e1, e2, r1, r2, g9⟩ := P_endDay hX9 hM9 hG9 hN9
    exact lawc_24 hl0 Cx hw hl hcs v v σ1 τ1 e1 e2 rfl (fun H locs ls hw hl => k0 H locs ls σ1 τ1 _ a1 r1 r2 g9 hw hl)
  have u25 : (25 : Int) ≤ z.toInt := x_up u24 c24
  by_cases c25 : z.toInt = 25
  · refine lv_tableIn (off := 1463) (tgt := 1503) hx hb dL_law_40 (by rw [c25]; decide) (by rw [c25]; decide) (by rw [c25]; rfl) (by decide) ?_
    obtain ⟨o, b9, σ1, τ1, a1, e1, e2, e3, e4, e5, r1, r2, g9⟩ := P_sell hX9 hM9 hG9 hN9 (xs (6 * n + 1)) (xs (6 * n + 2))
    exact lawc_25 hl0 Cx hw hl hcs o b9 σ1 τ1 e1 e3 e2 e4 e5 (fun H locs ls hw hl => k0 H locs ls σ1 τ1 _ a1 r1 r2 g9 hw hl)
  have u26 : (26 : Int) ≤ z.toInt := x_up u25 c25
  by_cases c26 : z.toInt = 26
  · refine lv_tableIn (off := 1531) (tgt := 1571) hx hb dL_law_40 (by rw [c26]; decide) (by rw [c26]; decide) (by rw [c26]; rfl) (by decide) ?_
    obtain ⟨o, b9, σ1, τ1, a1, e1, e2, e3, e4, e5, r1, r2, g9⟩ := P_crumble hX9 hM9 hG9 hN9 (xs (6 * n + 1))
    exact lawc_26 hl0 Cx hw hl hcs o b9 σ1 τ1 e1 e3 e2 e4 e5 (fun H locs ls hw hl => k0 H locs ls σ1 τ1 _ a1 r1 r2 g9 hw hl)
  have u27 : (27 : Int) ≤ z.toInt := x_up u26 c26
  by_cases c27 : z.toInt = 27
  · refine lv_tableIn (off := 1587) (tgt := 1627) hx hb dL_law_40 (by rw [c27]; decide) (by rw [c27]; decide) (by rw [c27]; rfl) (by decide) ?_
    obtain ⟨o, b9, σ1, τ1, a1, e1, e2, e3, e4, e5, r1, r2, g9⟩ := P_setFlour hX9 hM9 hG9 hN9 (xs (6 * n + 1)) (xs (6 * n + 2)) (xs (6 * n + 3)) (xs (6 * n + 4))
    exact lawc_27 hl0 Cx hw hl hcs o b9 σ1 τ1 e1 e3 e2 e4 e5 (fun H locs ls hw hl => k0 H locs ls σ1 τ1 _ a1 r1 r2 g9 hw hl)
  have u28 : (28 : Int) ≤ z.toInt := x_up u27 c27
  by_cases c28 : z.toInt = 28
  · refine lv_tableIn (off := 1679) (tgt := 1719) hx hb dL_law_40 (by rw [c28]; decide) (by rw [c28]; decide) (by rw [c28]; rfl) (by decide) ?_
    obtain ⟨o, b9, σ1, τ1, a1, e1, e2, e3, e4, e5, r1, r2, g9⟩ := P_mixCost hX9 hM9 hG9 hN9 (xs (6 * n + 1)) (xs (6 * n + 2)) (if (xs (6 * n + 3)) = 0 then 0 else 1)
    exact lawc_28 hl0 Cx hw hl hcs o b9 σ1 τ1 e1 e3 e2 e4 e5 (fun H locs ls hw hl => k0 H locs ls σ1 τ1 _ a1 r1 r2 g9 hw hl)
  have u29 : (29 : Int) ≤ z.toInt := x_up u28 c28
  by_cases c29 : z.toInt = 29
  · refine lv_tableIn (off := 1775) (tgt := 1815) hx hb dL_law_40 (by rw [c29]; decide) (by rw [c29]; decide) (by rw [c29]; rfl) (by decide) ?_
    obtain ⟨o, b9, σ1, τ1, a1, e1, e2, e3, e4, e5, r1, r2, g9⟩ := P_mixShare hX9 hM9 hG9 hN9 (xs (6 * n + 1)) (xs (6 * n + 2)) (xs (6 * n + 3)) (if (xs (6 * n + 4)) = 0 then 0 else 1)
    exact lawc_29 hl0 Cx hw hl hcs o b9 σ1 τ1 e1 e3 e2 e4 e5 (fun H locs ls hw hl => k0 H locs ls σ1 τ1 _ a1 r1 r2 g9 hw hl)
  have u30 : (30 : Int) ≤ z.toInt := x_up u29 c29
  by_cases c30 : z.toInt = 30
  · refine lv_tableIn (off := 1883) (tgt := 1923) hx hb dL_law_40 (by rw [c30]; decide) (by rw [c30]; decide) (by rw [c30]; rfl) (by decide) ?_
    obtain ⟨o, b9, σ1, τ1, a1, e1, e2, e3, e4, e5, r1, r2, g9⟩ := P_note hX9 hM9 hG9 hN9 (xs (6 * n + 1)) (xs (6 * n + 2))
    exact lawc_30 hl0 Cx hw hl hcs o b9 σ1 τ1 e1 e3 e2 e4 e5 (fun H locs ls hw hl => k0 H locs ls σ1 τ1 _ a1 r1 r2 g9 hw hl)
  have u31 : (31 : Int) ≤ z.toInt := x_up u30 c30
  by_cases c31 : z.toInt = 31
  · refine lv_tableIn (off := 1951) (tgt := 1991) hx hb dL_law_40 (by rw [c31]; decide) (by rw [c31]; decide) (by rw [c31]; rfl) (by decide) ?_
    obtain ⟨o, b9, σ1, τ1, a1, e1, e2, e3, e4, e5, r1, r2, g9⟩ := P_bestNumber hX9 hM9 hG9 hN9 (xs (6 * n + 1)) (xs (6 * n + 2)) (xs (6 * n + 3))
    exact lawc_31 hl0 Cx hw hl hcs o b9 σ1 τ1 e1 e3 e2 e4 e5 (fun H locs ls hw hl => k0 H locs ls σ1 τ1 _ a1 r1 r2 g9 hw hl)
  have u32 : (32 : Int) ≤ z.toInt := x_up u31 c31
  by_cases c32 : z.toInt = 32
  · refine lv_tableIn (off := 2031) (tgt := 2071) hx hb dL_law_40 (by rw [c32]; decide) (by rw [c32]; decide) (by rw [c32]; rfl) (by decide) ?_
    obtain ⟨o, b9, σ1, τ1, a1, e1, e2, e3, e4, e5, r1, r2, g9⟩ := P_loss hX9 hM9 hG9 hN9 (xs (6 * n + 1)) (xs (6 * n + 2)) (xs (6 * n + 3)) (xs (6 * n + 4))
    exact lawc_32 hl0 Cx hw hl hcs o b9 σ1 τ1 e1 e3 e2 e4 e5 (fun H locs ls hw hl => k0 H locs ls σ1 τ1 _ a1 r1 r2 g9 hw hl)
  have u33 : (33 : Int) ≤ z.toInt := x_up u32 c32
  by_cases c33 : z.toInt = 33
  · refine lv_tableIn (off := 2123) (tgt := 2163) hx hb dL_law_40 (by rw [c33]; decide) (by rw [c33]; decide) (by rw [c33]; rfl) (by decide) ?_
    obtain ⟨o, b9, σ1, τ1, a1, e1, e2, e3, e4, e5, r1, r2, g9⟩ := P_addShop hX9 hM9 hG9 hN9 (xs (6 * n + 1)) (xs (6 * n + 2)) (xs (6 * n + 3)) (xs (6 * n + 4)) (xs (6 * n + 5))
    exact lawc_33 hl0 Cx hw hl hcs o b9 σ1 τ1 e1 e3 e2 e4 e5 (fun H locs ls hw hl => k0 H locs ls σ1 τ1 _ a1 r1 r2 g9 hw hl)
  have u34 : (34 : Int) ≤ z.toInt := x_up u33 c33
  by_cases c34 : z.toInt = 34
  · refine lv_tableIn (off := 2227) (tgt := 2267) hx hb dL_law_40 (by rw [c34]; decide) (by rw [c34]; decide) (by rw [c34]; rfl) (by decide) ?_
    obtain ⟨o, b9, σ1, τ1, a1, e1, e2, e3, e4, e5, r1, r2, g9⟩ := P_comesBack hX9 hM9 hG9 hN9 (xs (6 * n + 1))
    exact lawc_34 hl0 Cx hw hl hcs o b9 σ1 τ1 e1 e3 e2 e4 e5 (fun H locs ls hw hl => k0 H locs ls σ1 τ1 _ a1 r1 r2 g9 hw hl)
  have u35 : (35 : Int) ≤ z.toInt := x_up u34 c34
  by_cases c35 : z.toInt = 35
  · refine lv_tableIn (off := 2283) (tgt := 2323) hx hb dL_law_40 (by rw [c35]; decide) (by rw [c35]; decide) (by rw [c35]; rfl) (by decide) ?_
    obtain ⟨o, b9, σ1, τ1, a1, e1, e2, e3, e4, e5, r1, r2, g9⟩ := P_shopOf hX9 hM9 hG9 hN9 (xs (6 * n + 1)) (xs (6 * n + 2))
    exact lawc_35 hl0 Cx hw hl hcs o b9 σ1 τ1 e1 e3 e2 e4 e5 (fun H locs ls hw hl => k0 H locs ls σ1 τ1 _ a1 r1 r2 g9 hw hl)
  have u36 : (36 : Int) ≤ z.toInt := x_up u35 c35
  by_cases c36 : z.toInt = 36
  · refine lv_tableIn (off := 2351) (tgt := 2391) hx hb dL_law_40 (by rw [c36]; decide) (by rw [c36]; decide) (by rw [c36]; rfl) (by decide) ?_
    obtain ⟨o, b9, σ1, τ1, a1, e1, e2, e3, e4, e5, r1, r2, g9⟩ := P_wayBack hX9 hM9 hG9 hN9 (xs (6 * n + 1)) (xs (6 * n + 2))
    exact lawc_36 hl0 Cx hw hl hcs o b9 σ1 τ1 e1 e3 e2 e4 e5 (fun H locs ls hw hl => k0 H locs ls σ1 τ1 _ a1 r1 r2 g9 hw hl)
  have u37 : (37 : Int) ≤ z.toInt := x_up u36 c36
  by_cases c37 : z.toInt = 37
  · refine lv_tableIn (off := 2419) (tgt := 2459) hx hb dL_law_40 (by rw [c37]; decide) (by rw [c37]; decide) (by rw [c37]; rfl) (by decide) ?_
    obtain ⟨o, b9, σ1, τ1, a1, e1, e2, e3, e4, e5, r1, r2, g9⟩ := P_cleaning hX9 hM9 hG9 hN9 (xs (6 * n + 1))
    exact lawc_37 hl0 Cx hw hl hcs o b9 σ1 τ1 e1 e3 e2 e4 e5 (fun H locs ls hw hl => k0 H locs ls σ1 τ1 _ a1 r1 r2 g9 hw hl)
  have u38 : (38 : Int) ≤ z.toInt := x_up u37 c37
  by_cases c38 : z.toInt = 38
  · refine lv_tableIn (off := 2475) (tgt := 2515) hx hb dL_law_40 (by rw [c38]; decide) (by rw [c38]; decide) (by rw [c38]; rfl) (by decide) ?_
    obtain ⟨o, b9, σ1, τ1, a1, e1, e2, e3, e4, e5, r1, r2, g9⟩ := P_rowAt hX9 hM9 hG9 hN9 (xs (6 * n + 1)) (xs (6 * n + 2))
    exact lawc_38 hl0 Cx hw hl hcs o b9 σ1 τ1 e1 e3 e2 e4 e5 (fun H locs ls hw hl => k0 H locs ls σ1 τ1 _ a1 r1 r2 g9 hw hl)
  have u39 : (39 : Int) ≤ z.toInt := x_up u38 c38
  by_cases c39 : z.toInt = 39
  · refine lv_tableIn (off := 2543) (tgt := 2583) hx hb dL_law_40 (by rw [c39]; decide) (by rw [c39]; decide) (by rw [c39]; rfl) (by decide) ?_
    obtain ⟨o, b9, σ1, τ1, a1, e1, e2, e3, e4, e5, r1, r2, g9⟩ := P_book hX9 hM9 hG9 hN9 (xs (6 * n + 1))
    exact lawc_39 hl0 Cx hw hl hcs o b9 σ1 τ1 e1 e3 e2 e4 e5 (fun H locs ls hw hl => k0 H locs ls σ1 τ1 _ a1 r1 r2 g9 hw hl)
  have u40 : (40 : Int) ≤ z.toInt := x_up u39 c39
  by_cases c40 : z.toInt = 40
  · refine lv_tableIn (off := 2599) (tgt := 2639) hx hb dL_law_40 (by rw [c40]; decide) (by rw [c40]; decide) (by rw [c40]; rfl) (by decide) ?_
    obtain ⟨o, b9, σ1, τ1, a1, e1, e2, e3, e4, e5, r1, r2, g9⟩ := P_type hX9 hM9 hG9 hN9 ((Int32.toInt64 (xs (6 * n + 1))) <<< ((32 : Int32).toInt64 &&& 63) ||| ((Int32.toInt64 (xs (6 * n + 2))) &&& 4294967295))
    exact lawc_40 hl0 Cx hw hl hcs o b9 σ1 τ1 e1 e3 e2 e4 e5 (fun H locs ls hw hl => k0 H locs ls σ1 τ1 _ a1 r1 r2 g9 hw hl)
  have u41 : (41 : Int) ≤ z.toInt := x_up u40 c40
  by_cases c41 : z.toInt = 41
  · refine lv_tableIn (off := 2687) (tgt := 2727) hx hb dL_law_40 (by rw [c41]; decide) (by rw [c41]; decide) (by rw [c41]; rfl) (by decide) ?_
    obtain ⟨v, σ1, τ1, a1, e1, e2, r1, r2, g9⟩ := P_fault hX9 hM9 hG9 hN9
    exact lawc_41 hl0 Cx hw hl hcs v v σ1 τ1 e1 e2 rfl (fun H locs ls hw hl => k0 H locs ls σ1 τ1 _ a1 r1 r2 g9 hw hl)
  have u42 : (42 : Int) ≤ z.toInt := x_up u41 c41
  by_cases c42 : z.toInt = 42
  · refine lv_tableIn (off := 2700) (tgt := 2740) hx hb dL_law_40 (by rw [c42]; decide) (by rw [c42]; decide) (by rw [c42]; rfl) (by decide) ?_
    obtain ⟨o, b9, σ1, τ1, a1, e1, e2, e3, e4, e5, r1, r2, g9⟩ := P_undo hX9 hM9 hG9 hN9 
    exact lawc_42 hl0 Cx hw hl hcs o b9 σ1 τ1 e1 e3 e2 e4 e5 (fun H locs ls hw hl => k0 H locs ls σ1 τ1 _ a1 r1 r2 g9 hw hl)
  have u43 : (43 : Int) ≤ z.toInt := x_up u42 c42
  by_cases c43 : z.toInt = 43
  · refine lv_tableIn (off := 2744) (tgt := 2784) hx hb dL_law_40 (by rw [c43]; decide) (by rw [c43]; decide) (by rw [c43]; rfl) (by decide) ?_
    obtain ⟨v, σ1, τ1, a1, e1, e2, r1, r2, g9⟩ := P_actCount hX9 hM9 hG9 hN9
    exact lawc_43 hl0 Cx hw hl hcs v v σ1 τ1 e1 e2 rfl (fun H locs ls hw hl => k0 H locs ls σ1 τ1 _ a1 r1 r2 g9 hw hl)
  have u44 : (44 : Int) ≤ z.toInt := x_up u43 c43
  by_cases c44 : z.toInt = 44
  · refine lv_tableIn (off := 2757) (tgt := 2797) hx hb dL_law_40 (by rw [c44]; decide) (by rw [c44]; decide) (by rw [c44]; rfl) (by decide) ?_
    exact lawc_44 Cx hw hl hcs _ _ _ _ (X_meanAge hX9) (M_meanAge hM9 hG9.1) (ma_eq hG9.1 hN9) (fun H locs ls d1 hd hw hl => kk H locs ls d1 _ _ _ _ hd hX9 (hM9.raised 0) hG9.succ hw hl)
  have u45 : (45 : Int) ≤ z.toInt := x_up u44 c44
  by_cases c45 : z.toInt = 45
  · refine lv_tableIn (off := 2798) (tgt := 2838) hx hb dL_law_40 (by rw [c45]; decide) (by rw [c45]; decide) (by rw [c45]; rfl) (by decide) ?_
    exact lawc_45 Cx hw hl hcs _ _ _ _ (X_thrownShare hX9 hG9.1) (M_thrownShare hM9) rfl (fun H locs ls d1 hd hw hl => kk H locs ls d1 _ _ _ _ hd hX9 (hM9.raised 0) hG9.succ hw hl)
  have u46 : (46 : Int) ≤ z.toInt := x_up u45 c45
  by_cases c46 : z.toInt = 46
  · refine lv_tableIn (off := 2841) (tgt := 2881) hx hb dL_law_40 (by rw [c46]; decide) (by rw [c46]; decide) (by rw [c46]; rfl) (by decide) ?_
    obtain ⟨v, σ1, τ1, a1, e1, e2, r1, r2, g9⟩ := P_checksum hX9 hM9 hG9 hN9
    exact lawc_46 hl0 Cx hw hl hcs v v σ1 τ1 e1 e2 rfl (fun H locs ls hw hl => k0 H locs ls σ1 τ1 _ a1 r1 r2 g9 hw hl)
  have u47 : (47 : Int) ≤ z.toInt := x_up u46 c46
  by_cases c47 : z.toInt = 47
  · refine lv_tableIn (off := 2855) (tgt := 2895) hx hb dL_law_40 (by rw [c47]; decide) (by rw [c47]; decide) (by rw [c47]; rfl) (by decide) ?_
    obtain ⟨v, σ1, τ1, a1, e1, e2, r1, r2, g9⟩ := P_errors hX9 hM9 hG9 hN9
    exact lawc_47 hl0 Cx hw hl hcs v v σ1 τ1 e1 e2 rfl (fun H locs ls hw hl => k0 H locs ls σ1 τ1 _ a1 r1 r2 g9 hw hl)
  have u48 : (47 : Int) < z.toInt := x_up u47 c47
  refine lv_tableOut (tgt := 2908) hx hb dL_law_40 (Or.inr u48) (by decide) ?_
  refine W.widen (k := cells + 20) (n := slots + 120) (Nat.le_add_right _ _) (Nat.le_add_right _ _) ?_
  exact k0 H locs ls σX σM fo (HH, s9, tx) hX9 hM9 hG9.succ hw hl
set_option maxRecDepth 100000 in
set_option maxHeartbeats 4000000 in
theorem law_loop {p : Program} {l : Launch} {e : Env} {s : State} {m : MethodId} {below : List Frame} {meth : Method} {c : Code} {b L : Nat} {xs : Nat → Int32} {D : va_G} {aX aM : Nat → Nat} {cA cL : ClassId} {ao : Nat} {g : Nat × Nat × (Nat → Nat)} (hl0 : l.stackTraces = false) (hx : p.tables.exec = Jvm.exec) (hb : c.code = cL_law) (hr : meth.sig.returnType = ret) (hlocks : meth.locks = false) (hml : c.maxLocals = 9) (hown : s.vm.findClass RL = some m.cls) (hts : ∀ w ∈ wsL_law, w.before #[Value.ref b] s = true) (hXs : va_X b L xs s s.heap) (hbl : b < s.heap.size) (hL : L ≤ 3072) (hG : xG g (fun q : Nat => s.heap.size ≤ q) s s.heap) (hNn : xN s) : ∀ (d n : Nat), n + d = 513 → 6 * n ≤ L ∨ n = 0 → ∀ (d0 : Drawn) (cells slots : Nat) (H : Heap) (locs : List Loc) (ls : Array Slot) (σX σM : xSt) (fo : Nat → Int64) (a : xA), s.drawn.sameBut d0 lw_cs → cells + 20 * (520 - n) ≤ 601024 ∧ slots + 120 * (520 - n) ≤ 7293034 → RX σX a → RM σM a → GH n a → xwW (xEX D aX aM cA g σM) ao cL (fun q : Nat => s.heap.size ≤ q) s.heap (s.setDrawn d0) σX fo H locs → lv_has ls 9 (xLl b (aX 0) (aM 0) ao (nI (6 * n))) → W p l e room_1 (s.setDrawn d0) m #[Value.ref b] below meth c H locs cells slots (lw_Z below #[Value.ref b] s) (F0 m 23 ls []) := by
  intro d
  induction d with
  | zero => intro n h1 h2; omega
  | succ d ih =>
    intro n h1 h2 d0 cells slots H locs ls σX σM fo a hd0 hcs hX9 hM9 hG9 hw hl
    have hbA : ¬ (fun q : Nat => s.heap.size ≤ q) b := Nat.not_le.mpr hbl
    have hXd : va_X b L xs (s.setDrawn d0) (s.setDrawn d0).heap := by
      obtain ⟨scr, y1, y2, y3, y4, y5⟩ := hXs
      exact ⟨scr, y1, y2, y3, y4, y5⟩
    refine lv_iload hx hb dL_law_23 (lv_at hl 4 rfl) ?_
    refine lv_aload_n hx hb dL_law_25 rfl (lv_at hl 0 rfl) ?_
    refine va_slen (s := s.setDrawn d0) (H0 := s.heap) (A := fun q : Nat => s.heap.size ≤ q) hx hb hXd hbl hbA hw.2.2.2 dL_law_26 ?_
    refine lv_bipush (v := 6) hx hb dL_law_27 (by decide) ?_
    refine lv_isub hx hb dL_law_29 ?_
    have e1 : (nI L - nI 6).toInt = (L : Int) - 6 := pk_sub_toInt (by omega) (by omega)
    have e2 : (nI (6 * n)).toInt = ((6 * n : Nat) : Int) := nI_toInt (by omega)
    refine lv_icmp_gt (tgt := 2914) hx hb dL_law_30 (by decide) (fun _ => ?_) (fun c9 => ?_)
    · refine lv_iconst (v := 1) hx hb dL_law_2914 (by decide) ?_
      refine W.widen (k := 601024) (n := 7293034) (by omega) (by omega) ?_
      exact va_forget (fun q hq => hw.2.2.2.2.2 q hq) (lw_ret hd0 hx hb hr hlocks dL_law_2915)
    · have hn : 6 * n + 6 ≤ L := by
        have c9 : ¬ (nI L - nI 6 < nI (6 * n)) := c9
        rw [Int32.lt_iff_toInt_lt, e1, e2] at c9
        omega
      obtain ⟨HH, s9, tx⟩ := a
      have Cx : xLC p (s.setDrawn d0) m #[Value.ref b] c b L n xs (fun q : Nat => s.heap.size ≤ q) g := ⟨hx, hb, hml, hown, dr_words hts d0, hXd, hbl, ⟨hn, hL⟩, fun _ h => h, hbA, xG.same (u := s) rfl hG, xN.moved (u := s) (Vm.Alike.refl s.vm) hNn⟩
      refine law_round hl0 Cx hw hl ⟨by omega, by omega⟩ hX9 hM9 hG9 (by omega) (fun H locs ls d1 σX1 σM1 fo1 a1 hd1 r1 r2 g9 hw hl => ?_)
      have hw : xwW (xEX D aX aM cA g σM1) ao cL (fun q : Nat => s.heap.size ≤ q) s.heap (s.setDrawn d1) σX1 fo1 H locs := hw
      have hd2 : s.drawn.sameBut d1 lw_cs := hd0.trans hd1
      show W p l e room_1 (s.setDrawn d1) m #[Value.ref b] below meth c H locs (cells + 20) (slots + 120) (lw_Z below #[Value.ref b] s) (F0 m 2908 ls [])
      have e6 : nI (6 * n) + Int32.ofInt 6 = nI (6 * (n + 1)) := by
        rw [show Int32.ofInt 6 = nI 6 by decide, nI_add]
        exact congrArg nI (by omega)
      refine lv_iinc (v := nI (6 * (n + 1))) (lv' := [(4, .int (nI (6 * (n + 1)))), (0, .ref b), (1, .ref (aX 0)), (2, .ref (aM 0)), (3, .ref ao)]) hx hb dL_law_2908 hl (k := 4) rfl e6 (by decide) rfl (fun ls hl => ?_)
      refine lv_goto (tgt := 23) hx hb dL_law_2911 (by decide) ?_
      exact ih (n + 1) (by omega) (Or.inl (by omega)) d1 (cells + 20) (slots + 120) H locs ls σX1 σM1 fo1 a1 hd2 ⟨by omega, by omega⟩ r1 r2 g9 hw (lv_sub hl [1, 2, 3, 4, 0] rfl)
