/-! ===== WHAT HOLDS OF EVERY STATE IS KEPT, 2 ===== -/
theorem Inv_addRecipe {N : Nat} {s : sS} (h : Inv N s) (hn : cR s < 6) {p0 p1 p2 p3 p4 : Int32} (g0 : 50 ≤ p0 ∧ p0 ≤ 2000) (g1 : 1 ≤ p1 ∧ p1 ≤ 200) (g2 : p1 ≤ p2 ∧ p2 ≤ 200) (g3 : 100 ≤ p3 ∧ p3 ≤ 300) (g4 : 0 ≤ p4 ∧ p4 ≤ 15) : Inv N (upd (upd (upd (upd (upd (upd (upd s 5 (nI (cR s + 1))) (19 + cR s) p0) (25 + cR s) p1) (31 + cR s) p2) (37 + cR s) p3) (43 + cR s) p4) (49 + cR s) 20) := by
  have hc := h.caps
  generalize hs : upd (upd (upd (upd (upd (upd (upd s 5 (nI (cR s + 1))) (19 + cR s) p0) (25 + cR s) p1) (31 + cR s) p2) (37 + cR s) p3) (43 + cR s) p4) (49 + cR s) 20 = s'
  have e1 : ∀ j, (j < 19 ∧ j ≠ 5) ∨ 55 ≤ j → s' j = s j := fun j hj => by rw [← hs]; simp (disch := omega) only [upd_ne]
  have e2 : ∀ k, k < cR s → s' (19 + k) = s (19 + k) ∧ s' (25 + k) = s (25 + k) ∧ s' (31 + k) = s (31 + k) ∧ s' (37 + k) = s (37 + k) ∧ s' (43 + k) = s (43 + k) ∧ s' (49 + k) = s (49 + k) := fun k hk => by
    rw [← hs]
    refine ⟨?_, ?_, ?_, ?_, ?_, ?_⟩ <;> simp (disch := omega) only [upd_ne]
  have e5 : s' 5 = nI (cR s + 1) := by rw [← hs]; simp (disch := omega) only [upd_ne, upd_at]
  have eR : cR s' = cR s + 1 := (congrArg Int32.toNatClampNeg e5).trans (nI_clamp (by omega))
  have eD : cD s' = cD s := cD_c (e1 6 (by omega))
  have eS : cS s' = cS s := cS_c (e1 7 (by omega))
  refine ⟨?_, iOven_c h.oven (fun j hj => e1 j (by omega)), ⟨fun k hk => ?_, fun k hk => ?_⟩, iDough_c hc.2.1 h.dough (e1 0 (by omega)) (e1 6 (by omega)) (fun j a b => e1 j (by omega)), fun k hk => ?_, iFlour_c h.flour (fun j a b => e1 j (by omega)), iNote_c hc.2.2.2.1 h.note (fun j a b => e1 j (by omega)), iShop_c hc.2.2.1 h.shop (e1 7 (by omega)) (fun j a b => e1 j (by omega)), ?_⟩
  · obtain ⟨a1, a2, a3, a4, a5, a6, a7, a8, a9⟩ := hc
    have eN : ∀ q, q < 6 → cN s' q = cN s q := fun q hq => congrArg Int32.toNatClampNeg (e1 (259 + q) (by omega))
    unfold caps
    rw [eR, eD, eS, e5, e1 6 (by omega), e1 7 (by omega)]
    exact ⟨by omega, a2, a3, fun q hq => by rw [eN q hq]; exact a4 q hq, fun k hk => by rw [e1 (103 + k) (by omega)]; have := a5 k hk; omega, rfl, a7, a8, fun q hq => by rw [eN q hq, e1 (259 + q) (by omega)]; exact a9 q hq⟩
  · rw [eR] at hk
    by_cases e : k = cR s
    · subst e
      rw [← hs]
      simp (disch := omega) only [upd_ne, upd_at]
      exact ⟨bt_of (by decide) (by decide) g0, bt_of (by decide) (by decide) g1, bt_of rfl (by decide) g2, bt_of (by decide) (by decide) g3, bt_of rfl (by decide) g4, ⟨by decide, by decide⟩⟩
    · obtain ⟨q1, q2, q3, q4, q5, q6⟩ := e2 k (by omega)
      rw [q1, q2, q3, q4, q5, q6]
      exact h.rec.1 k (by omega)
  · rw [e1 (55 + k) (by omega)]; exact h.rec.2 k hk
  · rw [eR, e1 (223 + k) (by omega)]
    have := h.bread k hk
    exact ⟨this.1, fun h9 => this.2 (by omega)⟩
  · obtain ⟨h1, h2, h3, h4, h5⟩ := h.led
    have hD : ldD s' = ldD s := by
      unfold ldD
      rw [eD]
      refine sumI_congr _ (fun k hk => ?_)
      have h9 := drc_lt hc hk
      have hcD := hc.2.1
      exact inDg_c (e1 _ (by omega)) (e1 _ (by omega)) (e1 _ (by omega)) (e2 _ h9).1
    have hB : ldB s' = ldB s := by
      unfold ldB
      rw [eR, show 4 * (cR s + 1) = 4 * cR s + 4 by omega, sumI_split]
      have z : sumI (fun k => (s' (223 + (4 * cR s + k))).toInt * (s' (19 + (4 * cR s + k) / 4)).toInt) 4 = 0 := sumI_zero 4 (fun k hk => by
        rw [e1 (223 + (4 * cR s + k)) (by omega), (h.bread (4 * cR s + k) (by omega)).2 (by omega)]
        exact Int.zero_mul _)
      rw [z, Int.add_zero]
      exact sumI_congr _ (fun k hk => by rw [e1 (223 + k) (by omega), (e2 (k / 4) (by omega)).1])
    refine ⟨?_, by rw [e1 9 (by omega)]; exact h2, by rw [e1 10 (by omega)]; exact h3, fun k hk => by rw [e1 (11 + k) (by omega)]; exact h4 k hk, by rw [e1 8 (by omega)]; exact h5⟩
    rw [led_eq, hD, hB, ldS_c (fun j a b => e1 j (by omega)), e1 8 (by omega), e1 9 (by omega), e1 10 (by omega), ← led_eq]
    exact h1
/-! the ledger's acts -/
/-- an act that leaves all but the ledger and the doughs' states -/
theorem Inv_led {N M : Nat} {s s' : sS} (h : Inv N s) (e : ∀ j, ¬ ((8 ≤ j ∧ j < 19) ∨ (163 ≤ j ∧ j < 247)) → s' j = s j) (hd : iDough s') (hb : iBread s') (hl : iLed M s') : Inv M s' := by
  have hc := h.caps
  exact ⟨caps_congr hc (e _ (by omega)) (e _ (by omega)) (e _ (by omega)) (fun j _ _ => e j (by omega)) (fun j _ _ => e j (by omega)), iOven_c h.oven (fun j _ => e j (by omega)), iRec_c hc.1 h.rec (e _ (by omega)) (fun j _ _ => e j (by omega)), hd, hb, iFlour_c h.flour (fun j _ _ => e j (by omega)), iNote_c hc.2.2.2.1 h.note (fun j _ _ => e j (by omega)), iShop_c hc.2.2.1 h.shop (e _ (by omega)) (fun j _ _ => e j (by omega)), hl⟩
theorem Inv_receive {N : Nat} {s : sS} (h : Inv N s) (hN : N ≤ 1000) {g : Nat} (hg : g < 8) {p : Int32} (hp : 1 ≤ p ∧ p ≤ 200000) : Inv (N + 1) (upd (upd s (11 + g) (s (11 + g) + p)) 8 (s 8 + p)) := by
  have hc := h.caps
  have hb : bt p 1 200000 := bt_of (by decide) (by decide) hp
  obtain ⟨l1, l2, l3, l4, l5, l6, l7⟩ := led_parts h
  have hs := st_le h hg
  have hs0 := h.led.2.2.2.1 g hg
  have e1 : ∀ j, j ≠ 8 → j ≠ 11 + g → upd (upd s (11 + g) (s (11 + g) + p)) 8 (s 8 + p) j = s j := fun j a b => by rw [upd_ne _ _ a, upd_ne _ _ b]
  have eg : upd (upd s (11 + g) (s (11 + g) + p)) 8 (s 8 + p) (11 + g) = s (11 + g) + p := by rw [upd_ne _ _ (by omega), upd_at]
  have tg : (s (11 + g) + p).toInt = (s (11 + g)).toInt + p.toInt := i32_add (by have := hb.1; omega) (by have := hb.2; omega)
  have t8 : (s 8 + p).toInt = (s 8).toInt + p.toInt := i32_add (by have := hb.1; omega) (by have := hb.2; omega)
  refine Inv_led h (fun j hj => e1 j (by omega) (by omega)) (iDough_c hc.2.1 h.dough (e1 0 (by omega) (by omega)) (e1 6 (by omega) (by omega)) (fun j a b => e1 j (by omega) (by omega))) (iBread_c h.bread (e1 5 (by omega) (by omega)) (fun j a b => e1 j (by omega) (by omega))) ⟨?_, ?_, ?_, fun k hk => ?_, ?_⟩
  · have hS : ldS (upd (upd s (11 + g) (s (11 + g) + p)) 8 (s 8 + p)) = ldS s + p.toInt := by
      unfold ldS
      rw [sumI_one (f := fun k => (s (11 + k)).toInt) 8 g hg (fun k hk he => by rw [e1 (11 + k) (by omega) (by omega)]), eg, tg]
      omega
    rw [led_eq, hS, ldD_c hc (e1 6 (by omega) (by omega)) (fun j hj => e1 j (by omega) (by omega)), ldB_c hc.1 (e1 5 (by omega) (by omega)) (fun j hj => e1 j (by omega) (by omega)), e1 9 (by omega) (by omega), e1 10 (by omega) (by omega), upd_at, t8]
    omega
  · rw [e1 9 (by omega) (by omega)]; exact l1
  · rw [e1 10 (by omega) (by omega)]; exact l2
  · by_cases e : k = g
    · rw [e, eg, tg]; have := hb.1; omega
    · rw [e1 (11 + k) (by omega) (by omega)]; exact h.led.2.2.2.1 k hk
  · rw [upd_at, t8]; have := hb.2; omega
theorem Inv_shape {N : Nat} {s : sS} (h : Inv N s) {k : Nat} (hk : k < cD s) (g : s (163 + k) = 0) : Inv N (upd (upd s (163 + k) 1) (183 + k) (s 0)) := by
  have hc := h.caps
  have hcD := hc.2.1
  have e1 : ∀ j, j ≠ 163 + k → j ≠ 183 + k → upd (upd s (163 + k) 1) (183 + k) (s 0) j = s j := fun j a b => by rw [upd_ne _ _ b, upd_ne _ _ a]
  have es : upd (upd s (163 + k) 1) (183 + k) (s 0) (163 + k) = 1 := by rw [upd_ne _ _ (by omega), upd_at]
  refine Inv_led h (fun j hj => e1 j (by omega) (by omega)) (fun i hi => ?_) (iBread_c h.bread (e1 5 (by omega) (by omega)) (fun j a b => e1 j (by omega) (by omega))) ?_
  · rw [cD_c (e1 6 (by omega) (by omega))] at hi
    obtain ⟨a1, a2, a3, ⟨a4, a5⟩, a6, a7⟩ := h.dough i hi
    rw [e1 (103 + i) (by omega) (by omega), e1 (123 + i) (by omega) (by omega), e1 (143 + i) (by omega) (by omega), e1 (203 + i) (by omega) (by omega), e1 0 (by omega) (by omega)]
    refine ⟨a1, a2, ?_, ⟨?_, a5⟩, a6, ?_⟩
    · by_cases e : i = k
      · rw [e, es]; exact ⟨by decide, by decide⟩
      · rw [e1 (163 + i) (by omega) (by omega)]; exact a3
    · by_cases e : i = k
      · rw [e, upd_at]; exact ⟨by have := h.oven.1.1; omega, Int.le_refl _⟩
      · rw [e1 (183 + i) (by omega) (by omega)]; exact a4
    · by_cases e : i = k
      · rw [e, es]; exact fun h9 => absurd h9 (by decide)
      · rw [e1 (163 + i) (by omega) (by omega)]; exact a7
  · obtain ⟨h1, h2, h3, h4, h5⟩ := h.led
    have hD : ldD (upd (upd s (163 + k) 1) (183 + k) (s 0)) = ldD s := by
      unfold ldD
      rw [cD_c (e1 6 (by omega) (by omega))]
      refine sumI_congr _ (fun i hi => ?_)
      have h9 := drc_lt hc hi
      have hcR := hc.1
      by_cases e : i = k
      · subst e
        unfold inDg dgr
        have h9 : (s (103 + i)).toNatClampNeg < cR s := h9
        rw [es, g, if_pos (Or.inr (Or.inl rfl)), if_pos (Or.inl rfl), e1 (103 + i) (by omega) (by omega), e1 (123 + i) (by omega) (by omega), e1 (19 + _) (by omega) (by omega)]
      · exact inDg_c (e1 _ (by omega) (by omega)) (e1 _ (by omega) (by omega)) (e1 _ (by omega) (by omega)) (e1 _ (by omega) (by omega))
    refine ⟨?_, by rw [e1 9 (by omega) (by omega)]; exact h2, by rw [e1 10 (by omega) (by omega)]; exact h3, fun k hk => by rw [e1 (11 + k) (by omega) (by omega)]; exact h4 k hk, by rw [e1 8 (by omega) (by omega)]; exact h5⟩
    rw [led_eq, hD, ldB_c hc.1 (e1 5 (by omega) (by omega)) (fun j hj => e1 j (by omega) (by omega)), ldS_c (fun j a b => e1 j (by omega) (by omega)), e1 8 (by omega) (by omega), e1 9 (by omega) (by omega), e1 10 (by omega) (by omega), ← led_eq]
    exact h1
theorem Inv_bake {N : Nat} {s : sS} (h : Inv N s) {k : Nat} (hk : k < cD s) (g : s (163 + k) = 0 ∨ s (163 + k) = 1) : Inv N (upd (upd s (163 + k) 2) (203 + k) (s 0)) := by
  have hc := h.caps
  have hcD := hc.2.1
  have e1 : ∀ j, j ≠ 163 + k → j ≠ 203 + k → upd (upd s (163 + k) 2) (203 + k) (s 0) j = s j := fun j a b => by rw [upd_ne _ _ b, upd_ne _ _ a]
  have es : upd (upd s (163 + k) 2) (203 + k) (s 0) (163 + k) = 2 := by rw [upd_ne _ _ (by omega), upd_at]
  refine Inv_led h (fun j hj => e1 j (by omega) (by omega)) (fun i hi => ?_) (iBread_c h.bread (e1 5 (by omega) (by omega)) (fun j a b => e1 j (by omega) (by omega))) ?_
  · rw [cD_c (e1 6 (by omega) (by omega))] at hi
    obtain ⟨a1, a2, a3, ⟨a4, a5⟩, a6, a7⟩ := h.dough i hi
    rw [e1 (103 + i) (by omega) (by omega), e1 (123 + i) (by omega) (by omega), e1 (143 + i) (by omega) (by omega), e1 (183 + i) (by omega) (by omega), e1 0 (by omega) (by omega)]
    have h00 := h.oven.1.1
    refine ⟨a1, a2, ?_, ⟨a4, a5⟩, ?_, ?_⟩
    · by_cases e : i = k
      · rw [e, es]; exact ⟨by decide, by decide⟩
      · rw [e1 (163 + i) (by omega) (by omega)]; exact a3
    · by_cases e : i = k
      · rw [e, upd_at]; exact ⟨by omega, Int.le_refl _⟩
      · rw [e1 (203 + i) (by omega) (by omega)]; exact a6
    · by_cases e : i = k
      · rw [e, upd_at]; exact fun _ => ⟨h00, by omega⟩
      · rw [e1 (163 + i) (by omega) (by omega), e1 (203 + i) (by omega) (by omega)]; exact a7
  · obtain ⟨h1, h2, h3, h4, h5⟩ := h.led
    have hD : ldD (upd (upd s (163 + k) 2) (203 + k) (s 0)) = ldD s := by
      unfold ldD
      rw [cD_c (e1 6 (by omega) (by omega))]
      refine sumI_congr _ (fun i hi => ?_)
      have h9 := drc_lt hc hi
      have hcR := hc.1
      by_cases e : i = k
      · subst e
        unfold inDg dgr
        have h9 : (s (103 + i)).toNatClampNeg < cR s := h9
        rw [es, if_pos (Or.inr (Or.inr rfl)), if_pos (by rcases g with g | g; exact Or.inl g; exact Or.inr (Or.inl g)), e1 (103 + i) (by omega) (by omega), e1 (123 + i) (by omega) (by omega), e1 (19 + _) (by omega) (by omega)]
      · exact inDg_c (e1 _ (by omega) (by omega)) (e1 _ (by omega) (by omega)) (e1 _ (by omega) (by omega)) (e1 _ (by omega) (by omega))
    refine ⟨?_, by rw [e1 9 (by omega) (by omega)]; exact h2, by rw [e1 10 (by omega) (by omega)]; exact h3, fun k hk => by rw [e1 (11 + k) (by omega) (by omega)]; exact h4 k hk, by rw [e1 8 (by omega) (by omega)]; exact h5⟩
    rw [led_eq, hD, ldB_c hc.1 (e1 5 (by omega) (by omega)) (fun j hj => e1 j (by omega) (by omega)), ldS_c (fun j a b => e1 j (by omega) (by omega)), e1 8 (by omega) (by omega), e1 9 (by omega) (by omega), e1 10 (by omega) (by omega), ← led_eq]
    exact h1
theorem i32_mul {a b : Int32} (h1 : -2147483648 ≤ a.toInt * b.toInt) (h2 : a.toInt * b.toInt < 2147483648) : (a * b).toInt = a.toInt * b.toInt := by
  rw [Int32.toInt_mul]
  exact Int.bmod_eq_of_le (by omega) (by omega)
/-- a dough's grams -/
theorem dgr_b {N : Nat} {s : sS} (h : Inv N s) {k : Nat} (hk : k < cD s) : 0 ≤ dgr s k ∧ dgr s k ≤ 80000 ∧ (s (123 + k) * s (19 + drc s k)).toInt = dgr s k := by
  have h1 := (h.dough k hk).2.1
  have h2 := (h.rec.1 _ (drc_lt h.caps hk)).1
  have e : dgr s k = (s (123 + k)).toInt * (s (19 + drc s k)).toInt := rfl
  have m0 : 0 ≤ (s (123 + k)).toInt * (s (19 + drc s k)).toInt := Int.mul_nonneg (by have := h1.1; omega) (by have := h2.1; omega)
  have m1 : (s (123 + k)).toInt * (s (19 + drc s k)).toInt ≤ 40 * 2000 := Int.mul_le_mul h1.2 h2.2 (by have := h2.1; omega) (by decide)
  exact ⟨m0, by rw [e]; omega, by rw [i32_mul (by omega) (by omega)]; rfl⟩
theorem Inv_throw {N : Nat} {s : sS} (h : Inv N s) (hN : N ≤ 1000) {k : Nat} (hk : k < cD s) (g : s (163 + k) = 0 ∨ s (163 + k) = 1) : Inv N (upd (upd s (163 + k) 4) 10 (s 10 + s (123 + k) * s (19 + drc s k))) := by
  have hc := h.caps
  have hcD := hc.2.1
  have e1 : ∀ j, j ≠ 163 + k → j ≠ 10 → upd (upd s (163 + k) 4) 10 (s 10 + s (123 + k) * s (19 + drc s k)) j = s j := fun j a b => by rw [upd_ne _ _ b, upd_ne _ _ a]
  have es : upd (upd s (163 + k) 4) 10 (s 10 + s (123 + k) * s (19 + drc s k)) (163 + k) = 4 := by rw [upd_ne _ _ (by omega), upd_at]
  obtain ⟨d1, d2, d3⟩ := dgr_b h hk
  obtain ⟨l1, l2, l3, l4, l5, l6, l7⟩ := led_parts h
  have t10 : (s 10 + s (123 + k) * s (19 + drc s k)).toInt = (s 10).toInt + dgr s k := by
    rw [i32_add, d3] <;> rw [d3] <;> omega
  refine Inv_led h (fun j hj => e1 j (by omega) (by omega)) (fun i hi => ?_) (iBread_c h.bread (e1 5 (by omega) (by omega)) (fun j a b => e1 j (by omega) (by omega))) ?_
  · rw [cD_c (e1 6 (by omega) (by omega))] at hi
    obtain ⟨a1, a2, a3, ⟨a4, a5⟩, a6, a7⟩ := h.dough i hi
    rw [e1 (103 + i) (by omega) (by omega), e1 (123 + i) (by omega) (by omega), e1 (143 + i) (by omega) (by omega), e1 (183 + i) (by omega) (by omega), e1 (203 + i) (by omega) (by omega), e1 0 (by omega) (by omega)]
    refine ⟨a1, a2, ?_, ⟨a4, a5⟩, a6, ?_⟩
    · by_cases e : i = k
      · rw [e, es]; exact ⟨by decide, by decide⟩
      · rw [e1 (163 + i) (by omega) (by omega)]; exact a3
    · by_cases e : i = k
      · rw [e, es]; exact fun h9 => absurd h9 (by decide)
      · rw [e1 (163 + i) (by omega) (by omega)]; exact a7
  · obtain ⟨h1, h2, h3, h4, h5⟩ := h.led
    have hD : ldD (upd (upd s (163 + k) 4) 10 (s 10 + s (123 + k) * s (19 + drc s k))) = ldD s - dgr s k := by
      unfold ldD
      rw [cD_c (e1 6 (by omega) (by omega)), sumI_one (f := inDg s) _ k hk (fun i hi he => ?_)]
      · have z1 : inDg (upd (upd s (163 + k) 4) 10 (s 10 + s (123 + k) * s (19 + drc s k))) k = 0 := by
          unfold inDg
          rw [es, if_neg (by decide)]
        have z2 : inDg s k = dgr s k := by
          unfold inDg
          rw [if_pos (by rcases g with g | g; exact Or.inl g; exact Or.inr (Or.inl g))]
        rw [z1, z2]; omega
      · have h9 := drc_lt hc hi
        have hcR := hc.1
        exact inDg_c (e1 _ (by omega) (by omega)) (e1 _ (by omega) (by omega)) (e1 _ (by omega) (by omega)) (e1 _ (by omega) (by omega))
    refine ⟨?_, by rw [e1 9 (by omega) (by omega)]; exact h2, by rw [upd_at, t10]; omega, fun k hk => by rw [e1 (11 + k) (by omega) (by omega)]; exact h4 k hk, by rw [e1 8 (by omega) (by omega)]; exact h5⟩
    rw [led_eq, hD, ldB_c hc.1 (e1 5 (by omega) (by omega)) (fun j hj => e1 j (by omega) (by omega)), ldS_c (fun j a b => e1 j (by omega) (by omega)), e1 8 (by omega) (by omega), e1 9 (by omega) (by omega), upd_at, t10]
    omega
