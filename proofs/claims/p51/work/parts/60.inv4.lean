/-! ===== WHAT HOLDS OF EVERY STATE IS KEPT, 4: mix, pass ===== -/
theorem sumI_sub (f g : Nat → Int) : ∀ n, sumI (fun k => f k - g k) n = sumI f n - sumI g n
  | 0 => rfl
  | n + 1 => by
    show sumI (fun k => f k - g k) n + (f n - g n) = sumI f n + f n - (sumI g n + g n)
    rw [sumI_sub f g n]; omega
theorem sumI_tel (U : Nat → Int) : ∀ n, sumI (fun k => U (k + 1) - U k) n = U n - U 0
  | 0 => by show (0 : Int) = U 0 - U 0; omega
  | n + 1 => by
    show sumI (fun k => U (k + 1) - U k) n + (U (n + 1) - U n) = U (n + 1) - U 0
    rw [sumI_tel U n]; omega
theorem pu_mono {s : sS} (h : iRec s) {r : Nat} (hr : r < 6) {k : Nat} (hk : k < 8) : (pu s r k).toInt ≤ (pu s r (k + 1)).toInt := by
  have h1 := iParts_pos h hr k (by omega)
  have h3 := h.2 (8 * r + k) (by omega)
  have e : pu s r (k + 1) = pu s r k + s (55 + (8 * r + k)) := rfl
  rw [e, i32_add (by have := h3.1; omega) (by have := h3.2; omega)]
  have := h3.1
  omega
theorem pu_mono8 {s : sS} (h : iRec s) {r : Nat} (hr : r < 6) : ∀ d k, k + d = 8 → (pu s r k).toInt ≤ (pu s r 8).toInt
  | 0, k, hk => by rw [show k = 8 by omega]; exact Int.le_refl _
  | d + 1, k, hk => Int.le_trans (pu_mono h hr (by omega)) (pu_mono8 h hr d (k + 1) (by omega))
theorem up64_toInt {s : sS} (h : iRec s) {r : Nat} (hr : r < 6) {g : Int32} (hg : bt g 0 80000) (hp : 0 < (pu s r 8).toInt) {k : Nat} (hk : k ≤ 8) : (up64 s r g k).toInt32.toInt = g.toInt * (pu s r k).toInt / (pu s r 8).toInt ∧ 0 ≤ g.toInt * (pu s r k).toInt / (pu s r 8).toInt ∧ g.toInt * (pu s r k).toInt / (pu s r 8).toInt ≤ g.toInt := by
  have h1 := iParts_pos h hr k hk
  have h2 := pu_mono8 h hr (8 - k) k (by omega)
  have h8 := iParts_pos h hr 8 (Nat.le_refl _)
  have m0 : 0 ≤ g.toInt * (pu s r k).toInt := Int.mul_nonneg hg.1 h1.1
  have m1 : g.toInt * (pu s r k).toInt ≤ 80000 * 79992 := Int.mul_le_mul hg.2 (by have := h8.2; omega) h1.1 (by decide)
  have q0 : 0 ≤ g.toInt * (pu s r k).toInt / (pu s r 8).toInt := Int.ediv_nonneg m0 (by omega)
  have q1 : g.toInt * (pu s r k).toInt / (pu s r 8).toInt ≤ g.toInt := by
    have a := Int.ediv_le_ediv hp (Int.mul_le_mul_of_nonneg_left h2 hg.1)
    rw [Int.mul_ediv_cancel _ (by omega)] at a
    exact a
  have e : (up64 s r g k).toInt = g.toInt * (pu s r k).toInt / (pu s r 8).toInt := by
    unfold up64
    rw [Int64.toInt_div, Int64.toInt_mul, Int32.toInt_toInt64, Int32.toInt_toInt64, Int32.toInt_toInt64, Int.bmod_eq_of_le (n := g.toInt * (pu s r k).toInt) (by omega) (by omega), Int.tdiv_eq_ediv_of_nonneg m0, Int.bmod_eq_of_le (by have := hg.2; omega) (by have := hg.2; omega)]
  refine ⟨?_, q0, q1⟩
  rw [Int64.toInt_toInt32, e]
  exact Int.bmod_eq_of_le (by have := hg.2; omega) (by have := hg.2; omega)
theorem amt_toInt {s : sS} (h : iRec s) {r : Nat} (hr : r < 6) {g : Int32} (hg : bt g 0 80000) (hp : 0 < (pu s r 8).toInt) {k : Nat} (hk : k < 8) : (amt s r g k).toInt = g.toInt * (pu s r (k + 1)).toInt / (pu s r 8).toInt - g.toInt * (pu s r k).toInt / (pu s r 8).toInt ∧ 0 ≤ (amt s r g k).toInt := by
  obtain ⟨a1, a2, a3⟩ := up64_toInt h hr hg hp (k := k) (by omega)
  obtain ⟨b1, b2, b3⟩ := up64_toInt h hr hg hp (k := k + 1) (by omega)
  have hm := Int.ediv_le_ediv hp (Int.mul_le_mul_of_nonneg_left (pu_mono h hr hk) hg.1)
  have := hg.2
  have e : (amt s r g k).toInt = g.toInt * (pu s r (k + 1)).toInt / (pu s r 8).toInt - g.toInt * (pu s r k).toInt / (pu s r 8).toInt := by
    unfold amt
    rw [i32_sub, a1, b1] <;> rw [a1, b1] <;> omega
  exact ⟨e, by omega⟩
theorem amt_sum {s : sS} (h : iRec s) {r : Nat} (hr : r < 6) {g : Int32} (hg : bt g 0 80000) (hp : 0 < (pu s r 8).toInt) : sumI (fun k => (amt s r g k).toInt) 8 = g.toInt := by
  have e := sumI_tel (fun i => g.toInt * (pu s r i).toInt / (pu s r 8).toInt) 8
  have e2 : g.toInt * (pu s r 8).toInt / (pu s r 8).toInt - g.toInt * (pu s r 0).toInt / (pu s r 8).toInt = g.toInt := by
    rw [Int.mul_ediv_cancel _ (by omega), show (pu s r 0).toInt = 0 from rfl, Int.mul_zero, Int.zero_ediv, Int.sub_zero]
  refine (sumI_congr 8 (fun k hk => (amt_toInt h hr hg hp hk).1)).trans (e.trans e2)
theorem mixN_lt (s : sS) (r : Nat) (g : Int32) : ∀ n k, k < n → mixN s r g n (11 + k) = s (11 + k) - amt s r g k
  | 0, k, hk => absurd hk (Nat.not_lt_zero k)
  | n + 1, k, hk => by
    show upd (mixN s r g n) (11 + n) (s (11 + n) - amt s r g n) (11 + k) = _
    by_cases e : k = n
    · rw [e, upd_at]
    · rw [upd_ne _ _ (by omega)]; exact mixN_lt s r g n k (by omega)
theorem Inv_mix {N : Nat} {s : sS} (h : Inv N s) (hN : N ≤ 1000) {r : Nat} (hr : r < cR s) {pc : Int32} (hp : 1 ≤ pc ∧ pc ≤ 40) (hq : mixQ s r pc) : Inv N (mixS s r pc) := by
  have hc := h.caps
  have hcR := hc.1
  obtain ⟨q1, q2, q3⟩ := hq
  have hb : bt pc 1 40 := bt_of (by decide) (by decide) hp
  have hpc := (h.rec.1 r hr).1
  have m0 : 0 ≤ pc.toInt * (s (19 + r)).toInt := Int.mul_nonneg (by have := hb.1; omega) (by have := hpc.1; omega)
  have m1 : pc.toInt * (s (19 + r)).toInt ≤ 40 * 2000 := Int.mul_le_mul hb.2 hpc.2 (by have := hpc.1; omega) (by decide)
  have tg : (pc * s (19 + r)).toInt = pc.toInt * (s (19 + r)).toInt := i32_mul (by omega) (by omega)
  have hg : bt (pc * s (19 + r)) 0 80000 := ⟨by rw [tg]; exact m0, by rw [tg]; omega⟩
  have hpu : 0 < (pu s r 8).toInt := by rw [fa_lt] at q2; exact q2
  have hsum := amt_sum h.rec (r := r) (by omega) hg hpu
  generalize hgg : pc * s (19 + r) = g at *
  obtain ⟨l1, l2, l3, l4, l5, l6, l7⟩ := led_parts h
  have st : ∀ k, k < 8 → (s (11 + k) - amt s r g k).toInt = (s (11 + k)).toInt - (amt s r g k).toInt ∧ 0 ≤ (s (11 + k)).toInt - (amt s r g k).toInt := fun k hk => by
    have a0 := (amt_toInt h.rec (r := r) (by omega) hg hpu hk).2
    have a1 := (fa_le _ _).mp (q3 k hk)
    have a2 := (s (11 + k)).toInt_lt
    exact ⟨i32_sub (by omega) (by omega), by omega⟩
  generalize hs : mixS s r pc = s'
  have ex : ∀ j, s' j = upd (upd (upd (upd (upd (upd (upd (mixN s r g 8) 6 (nI (cD s + 1))) (103 + cD s) (nI r)) (123 + cD s) pc) (143 + cD s) 0) (163 + cD s) 0) (183 + cD s) (-1)) (203 + cD s) (-1) j := fun j => by rw [← hs]; unfold mixS; rw [hgg]
  have e1 : ∀ j, j ≠ 6 → ¬ (11 ≤ j ∧ j < 19) → j ≠ 103 + cD s → j ≠ 123 + cD s → j ≠ 143 + cD s → j ≠ 163 + cD s → j ≠ 183 + cD s → j ≠ 203 + cD s → s' j = s j := fun j a b c d e f g h => by
    rw [ex j, upd_ne _ _ h, upd_ne _ _ g, upd_ne _ _ f, upd_ne _ _ e, upd_ne _ _ d, upd_ne _ _ c, upd_ne _ _ a]
    exact mixN_ge _ _ _ _ _ (by omega)
  have e6 : s' 6 = nI (cD s + 1) := by rw [ex]; simp (disch := omega) only [upd_ne, upd_at]
  have eD : cD s' = cD s + 1 := (congrArg Int32.toNatClampNeg e6).trans (nI_clamp (by omega))
  have eg : ∀ k, k < 8 → s' (11 + k) = s (11 + k) - amt s r g k := fun k hk => by
    rw [ex]; simp (disch := omega) only [upd_ne]; exact mixN_lt s r g 8 k hk
  have x1 : s' (103 + cD s) = nI r := by rw [ex]; simp (disch := omega) only [upd_ne, upd_at]
  have x2 : s' (123 + cD s) = pc := by rw [ex]; simp (disch := omega) only [upd_ne, upd_at]
  have x3 : s' (143 + cD s) = 0 := by rw [ex]; simp (disch := omega) only [upd_ne, upd_at]
  have x4 : s' (163 + cD s) = 0 := by rw [ex]; simp (disch := omega) only [upd_ne, upd_at]
  have x5 : s' (183 + cD s) = -1 := by rw [ex]; simp (disch := omega) only [upd_ne, upd_at]
  have x6 : s' (203 + cD s) = -1 := by rw [ex]; simp (disch := omega) only [upd_at]
  have eo : ∀ k, k < cD s → s' (103 + k) = s (103 + k) ∧ s' (123 + k) = s (123 + k) ∧ s' (143 + k) = s (143 + k) ∧ s' (163 + k) = s (163 + k) ∧ s' (183 + k) = s (183 + k) ∧ s' (203 + k) = s (203 + k) := fun k hk => by
    refine ⟨?_, ?_, ?_, ?_, ?_, ?_⟩ <;> exact e1 _ (by omega) (by omega) (by omega) (by omega) (by omega) (by omega) (by omega) (by omega)
  have es : ∀ j, j < 6 ∨ (7 ≤ j ∧ j < 11) ∨ (19 ≤ j ∧ j < 103) ∨ 223 ≤ j → s' j = s j := fun j hj => e1 j (by omega) (by omega) (by omega) (by omega) (by omega) (by omega) (by omega) (by omega)
  have eR := cR_c (es 5 (by omega))
  have eS := cS_c (es 7 (by omega))
  have eN : ∀ q, q < 6 → cN s' q = cN s q := fun q hq => congrArg Int32.toNatClampNeg (es (259 + q) (by omega))
  refine ⟨?_, iOven_c h.oven (fun j _ => es j (by omega)), iRec_c hcR h.rec (es 5 (by omega)) (fun j _ _ => es j (by omega)), fun k hk => ?_, iBread_c h.bread (es 5 (by omega)) (fun j _ _ => es j (by omega)), iFlour_c h.flour (fun j _ _ => es j (by omega)), iNote_c hc.2.2.2.1 h.note (fun j _ _ => es j (by omega)), iShop_c hc.2.2.1 h.shop (es 7 (by omega)) (fun j _ _ => es j (by omega)), ?_⟩
  · obtain ⟨a1, a2, a3, a4, a5, a6, a7, a8, a9⟩ := hc
    unfold caps
    rw [eR, eD, eS, e6, es 5 (by omega), es 7 (by omega)]
    refine ⟨a1, by omega, a3, fun q hq => by rw [eN q hq]; exact a4 q hq, fun k hk => ?_, a6, rfl, a8, fun q hq => by rw [eN q hq, es (259 + q) (by omega)]; exact a9 q hq⟩
    by_cases e : k = cD s
    · rw [e, x1, nI_clamp (by omega)]; exact hr
    · rw [(eo k (by omega)).1]; exact a5 k (by omega)
  · rw [eD] at hk
    rw [es 0 (by omega)]
    by_cases e : k = cD s
    · rw [e, x1, x2, x3, x4, x5, x6]
      have := h.oven.1.1
      refine ⟨by rw [nI_clamp (by omega)], hb, ⟨by decide, by decide⟩, ⟨⟨by decide, ?_⟩, ⟨by decide, ?_⟩⟩, ⟨by decide, ?_⟩, fun h9 => absurd h9 (by decide)⟩
      · rw [show (-1 : Int32).toInt = -1 by decide]; omega
      · show (0 : Int) ≤ _; omega
      · rw [show (-1 : Int32).toInt = -1 by decide]; omega
    · obtain ⟨y1, y2, y3, y4, y5, y6⟩ := eo k (by omega)
      rw [y1, y2, y3, y4, y5, y6]
      exact h.dough k (by omega)
  · have hS : ldS s' = ldS s - g.toInt := by
      unfold ldS
      rw [sumI_congr (g := fun k => (s (11 + k)).toInt - (amt s r g k).toInt) 8 (fun k hk => by rw [eg k hk]; exact (st k hk).1), sumI_sub, hsum]
    have hB : ldB s' = ldB s := ldB_c hcR (es 5 (by omega)) (fun j hj => es j (by omega))
    have hD : ldD s' = ldD s + g.toInt := by
      have z : inDg s' (cD s) = g.toInt := by
        unfold inDg dgr
        rw [if_pos (Or.inl x4), x1, x2, nI_clamp (by omega), es (19 + r) (by omega), tg]
      unfold ldD
      rw [eD]
      show sumI (inDg s') (cD s) + inDg s' (cD s) = _
      rw [z, sumI_congr (g := inDg s) (cD s) (fun k hk => by
        have h9 := drc_lt hc hk
        exact inDg_c (eo k hk).2.2.2.1 (eo k hk).2.1 (eo k hk).1 (es _ (by omega)))]
    refine ⟨?_, by rw [es 9 (by omega)]; exact l1, by rw [es 10 (by omega)]; exact l2, fun k hk => by rw [eg k hk, (st k hk).1]; exact (st k hk).2, by rw [es 8 (by omega)]; exact l7⟩
    rw [led_eq, hS, hB, hD, es 8 (by omega), es 9 (by omega), es 10 (by omega)]
    omega
/-! pass -/
theorem xPts_b (j : Nat) : bt (xPts j) 0 6 := by
  by_cases h : j < 6
  · have : ∀ j, j < 6 → 0 ≤ (xPts j).toInt ∧ (xPts j).toInt ≤ 6 := by decide
    exact this j h
  · have e : xPts j = 0 := by
      unfold xPts
      rw [List.getD_eq_getElem?_getD, List.getElem?_eq_none (by show 6 ≤ j; omega)]
      rfl
    rw [e]; exact ⟨by decide, by decide⟩
theorem L2_st (t : sS) (c : Nat → Bool) (n : Nat) {k : Nat} (hk : k < 20) : L2 t c n (163 + k) = if k < n ∧ t (163 + k) = 2 ∧ c k = true then 3 else t (163 + k) := by
  unfold L2
  rw [show 163 + k - 163 = k by omega]
  by_cases h : k < n ∧ t (163 + k) = 2 ∧ c k = true
  · rw [if_pos h, if_pos ⟨by omega, by omega, h.2⟩]
  · rw [if_neg h, if_neg (fun h9 => h ⟨by omega, h9.2.2⟩), if_neg (by omega)]
theorem L2_led {N : Nat} {t : sS} (hb : iBase t) (hT : ldD t + ldB t ≤ 200000 * N) (hN : N ≤ 1000) (c : Nat → Bool) : ∀ i, i ≤ cD t → iBread (L2 t c i) ∧ ldD (L2 t c i) + ldB (L2 t c i) = ldD t + ldB t
  | 0, _ => by rw [L2_0]; exact ⟨hb.2.2.2, rfl⟩
  | i + 1, hi => by
    obtain ⟨h1, h2⟩ := L2_led hb hT hN c i (by omega)
    have hc := hb.1
    have hcD := hc.2.1
    have hcR := hc.1
    have hr := drc_lt hc (show i < cD t by omega)
    by_cases hy : t (163 + i) = 2 ∧ c i = true
    · rw [L2_yes t c i (by omega) (by omega) hy]
      have ue : ∀ j, ¬ (163 ≤ j ∧ j < 183) → ¬ (223 ≤ j ∧ j < 247) → L2 t c i j = t j := fun j a b => L2_at t c i (by omega) (by omega)
      have us : ∀ k, i ≤ k → k < 20 → L2 t c i (163 + k) = t (163 + k) := fun k a b => L2_at t c i (by omega) (by omega)
      generalize hu : L2 t c i = u at *
      have eR : cR u = cR t := cR_c (ue 5 (by omega) (by omega))
      have eD : cD u = cD t := cD_c (ue 6 (by omega) (by omega))
      have hbu : iBase u := ⟨caps_congr hc (ue _ (by omega) (by omega)) (ue _ (by omega) (by omega)) (ue _ (by omega) (by omega)) (fun j _ _ => ue j (by omega) (by omega)) (fun j _ _ => ue j (by omega) (by omega)), fun k hk => by rw [ue (19 + k) (by omega) (by omega)]; exact hb.2.1 k (by omega), fun k hk => by rw [ue (123 + k) (by omega) (by omega)]; exact hb.2.2.1 k (by omega), h1⟩
      obtain ⟨r1, r2, r3⟩ := row_le hbu (r := drc t i) (by omega)
      have dn := sumI_nn (f := inDg u) (cD u) (inDg_nn' hbu)
      have hp := hb.2.2.1 i (by omega)
      have nn : ∀ j, j < 4 → 0 ≤ (u (223 + (4 * drc t i + j))).toInt := fun j hj => (h1 (4 * drc t i + j) (by omega)).1
      have n0 := nn 0 (by decide)
      have n1 := nn 1 (by decide)
      have n2 := nn 2 (by decide)
      have n3 := nn 3 (by decide)
      have hrw := rowI_eq u (drc t i)
      have dn : 0 ≤ ldD u := dn
      have n0' : 0 ≤ (u (223 + 4 * drc t i)).toInt := n0
      have hrw' : rowI u (drc t i) = (u (223 + 4 * drc t i)).toInt + (u (223 + (4 * drc t i + 1))).toInt + (u (223 + (4 * drc t i + 2))).toInt + (u (223 + (4 * drc t i + 3))).toInt := hrw
      have tb : (u (223 + 4 * drc t i) + t (123 + i)).toInt = (u (223 + 4 * drc t i)).toInt + (t (123 + i)).toInt := i32_add (by have := hp.1; omega) (by have := hp.2; omega)
      generalize hv : upd (upd u (163 + i) 3) (223 + 4 * drc t i) (u (223 + 4 * drc t i) + t (123 + i)) = v
      have ve : ∀ j, j ≠ 163 + i → j ≠ 223 + 4 * drc t i → v j = u j := fun j a b => by rw [← hv, upd_ne _ _ b, upd_ne _ _ a]
      have v1 : v (223 + 4 * drc t i) = u (223 + 4 * drc t i) + t (123 + i) := by rw [← hv, upd_at]
      have v2 : v (163 + i) = 3 := by rw [← hv, upd_ne _ _ (by omega), upd_at]
      have hrow : rowI v (drc t i) = rowI u (drc t i) + (t (123 + i)).toInt := by
        rw [rowI_eq v, hrw', show v (223 + (4 * drc t i + 0)) = u (223 + 4 * drc t i) + t (123 + i) from v1, tb, ve (223 + (4 * drc t i + 1)) (by omega) (by omega), ve (223 + (4 * drc t i + 2)) (by omega) (by omega), ve (223 + (4 * drc t i + 3)) (by omega) (by omega)]
        omega
      have hB := ldB_row (s' := v) hbu.1.1 (r := drc t i) (by omega) (ve 5 (by omega) (by omega)) (fun j a b => ve j (by omega) (by omega)) (fun k hk hn => ve (223 + k) (by omega) (by omega))
      have hD : ldD v = ldD u - dgr t i := by
        unfold ldD
        rw [cD_c (ve 6 (by omega) (by omega)), sumI_one (f := inDg u) _ i (by omega) (fun k hk he => ?_)]
        · have z1 : inDg v i = 0 := by
            unfold inDg
            rw [v2, if_neg (by decide)]
          have z2 : inDg u i = dgr t i := by
            unfold inDg dgr
            have hr' : (t (103 + i)).toNatClampNeg < cR t := hr
            rw [us i (Nat.le_refl _) (by omega), if_pos (Or.inr (Or.inr hy.1)), ue (103 + i) (by omega) (by omega), ue (123 + i) (by omega) (by omega), ue (19 + _) (by omega) (by omega)]
          rw [z1, z2]; omega
        · have h9 := drc_lt hbu.1 hk
          exact inDg_c (ve _ (by omega) (by omega)) (ve _ (by omega) (by omega)) (ve _ (by omega) (by omega)) (ve _ (by omega) (by omega))
      have ed : dgr t i = (t (123 + i)).toInt * (t (19 + drc t i)).toInt := rfl
      refine ⟨iBread_row h1 (r := drc t i) (by omega) (ve 5 (by omega) (by omega)) (fun k hk hn => ve (223 + k) (by omega) (by omega)) (fun j hj => ?_), ?_⟩
      · by_cases e : j = 0
        · subst e
          rw [show v (223 + (4 * drc t i + 0)) = u (223 + 4 * drc t i) + t (123 + i) from v1, tb]
          have := hp.1; omega
        · rw [ve (223 + (4 * drc t i + j)) (by omega) (by omega)]; exact nn j hj
      · rw [hD, hB, hrow, ue (19 + drc t i) (by omega) (by omega), show rowI u (drc t i) + (t (123 + i)).toInt - rowI u (drc t i) = (t (123 + i)).toInt by omega, ← ed]
        omega
    · rw [L2_no t c i hy]; exact ⟨h1, h2⟩
theorem tk_0 (s : sS) : tk s 0 = s 0 + 1 := by
  unfold tk
  rw [L2_at _ _ _ (by omega) (by omega)]
  unfold tk3
  rw [upd_ne _ _ (by decide), L1_at _ _ _ (by omega), upd_at]
theorem Inv_tk {N : Nat} {s : sS} (h : Inv N s) (hN : N ≤ 1000) (htk : (s 0).toInt + 1 ≤ 100000) : Inv N (tk s) := by
  have hc := h.caps
  have hcD := hc.2.1
  have hcR := hc.1
  obtain ⟨l1, l2, l3, l4, l5, l6, l7⟩ := led_parts h
  have o := h.oven
  have te : ∀ j, j ≠ 0 → j ≠ 2 → ¬ (143 ≤ j ∧ j < 163) → tk3 s j = s j := fun j a b c => tk3_at s a b c hcD
  have t0 : tk3 s 0 = s 0 + 1 := by
    unfold tk3
    rw [upd_ne _ _ (by decide), L1_at _ _ _ (by omega), upd_at]
  have t2 : tk3 s 2 = ht s 1 := by unfold tk3; rw [upd_at]; rfl
  have t0i : (s 0 + 1).toInt = (s 0).toInt + 1 := i32_add (by have := o.1.1; show _ ≤ (s 0).toInt + 1; omega) (by show (s 0).toInt + 1 < _; omega)
  have tp : ∀ k, k < cD s → bt (tk3 s (143 + k)) 0 (6 * ((s 0).toInt + 1)) := fun k hk => by
    have hp := (h.dough k hk).2.2.2.1.2
    have hg := xPts_b (s 1).toNatClampNeg
    have e : tk3 s (143 + k) = if s (163 + k) = 0 then s (143 + k) + gn s else s (143 + k) + 0 := by
      unfold tk3
      rw [upd_ne _ _ (by omega)]
      unfold L1
      rw [if_pos (by omega), upd_ne _ _ (by omega), upd_ne _ _ (by omega), show 20 + (143 + k) = 163 + k by omega]
    have o1 := o.1.2
    rw [e]
    by_cases g : s (163 + k) = 0
    · rw [if_pos g]
      have e2 : (s (143 + k) + gn s).toInt = (s (143 + k)).toInt + (gn s).toInt := i32_add (by have := hp.1; have := hg.1; unfold gn; omega) (by have := hp.2; have := hg.2; unfold gn; omega)
      unfold bt
      rw [e2]
      have := hp.1; have := hp.2; have := hg.1; have := hg.2
      unfold gn
      exact ⟨by omega, by omega⟩
    · rw [if_neg g, Int32.add_zero]
      have := hp.1; have := hp.2
      exact ⟨by omega, by omega⟩
  have ho : iOven (tk3 s) := by
    refine ⟨?_, ?_, ?_, ?_, ?_⟩
    · rw [t0]; unfold bt; rw [t0i]; have := o.1.1; omega
    · rw [te 1 (by decide) (by decide) (by omega)]; exact o.2.1
    · rw [t2]
      have e := ht_int o.2.2.1 o.2.2.2.1 1
      have a1 := o.2.2.1.1
      have a2 := o.2.2.1.2
      have b1 := o.2.2.2.1.1
      have b2 := o.2.2.2.1.2
      show bt (ht s 1) 20 320
      unfold bt
      rw [e]
      split
      · split <;> omega
      · omega
    · rw [te 3 (by decide) (by decide) (by omega)]; exact o.2.2.2.1
    · rw [te 4 (by decide) (by decide) (by omega)]; exact o.2.2.2.2
  have tc : caps (tk3 s) := caps_congr hc (te _ (by decide) (by decide) (by omega)) (te _ (by decide) (by decide) (by omega)) (te _ (by decide) (by decide) (by omega)) (fun j _ _ => te j (by omega) (by omega) (by omega)) (fun j _ _ => te j (by omega) (by omega) (by omega))
  have eR : cR (tk3 s) = cR s := cR_c (te 5 (by decide) (by decide) (by omega))
  have eD : cD (tk3 s) = cD s := cD_c (te 6 (by decide) (by decide) (by omega))
  have hb : iBase (tk3 s) := ⟨tc, fun k hk => by rw [te (19 + k) (by omega) (by omega) (by omega)]; exact (h.rec.1 k (by omega)).1, fun k hk => by rw [te (123 + k) (by omega) (by omega) (by omega)]; exact (h.dough k (by omega)).2.1, iBread_c h.bread (te 5 (by decide) (by decide) (by omega)) (fun j _ _ => te j (by omega) (by omega) (by omega))⟩
  have hD : ldD (tk3 s) = ldD s := ldD_c hc (te 6 (by decide) (by decide) (by omega)) (fun j hj => te j (by omega) (by omega) (by omega))
  have hB : ldB (tk3 s) = ldB s := ldB_c hcR (te 5 (by decide) (by decide) (by omega)) (fun j hj => te j (by omega) (by omega) (by omega))
  obtain ⟨k1, k2⟩ := L2_led (N := N) hb (by rw [hD, hB]; omega) hN (tkC (tk3 s)) (cD s) (by omega)
  rw [hD, hB] at k2
  have ve : ∀ j, ¬ (163 ≤ j ∧ j < 183) → ¬ (223 ≤ j ∧ j < 247) → tk s j = tk3 s j := fun j a b => L2_at _ _ _ (by omega) (by omega)
  have vs : ∀ j, j ≠ 0 → j ≠ 2 → ¬ (143 ≤ j ∧ j < 183) → ¬ (223 ≤ j ∧ j < 247) → tk s j = s j := fun j a b c d => (ve j (by omega) d).trans (te j a b (by omega))
  have k1 : iBread (tk s) := k1
  have k2 : ldD (tk s) + ldB (tk s) = ldD s + ldB s := k2
  refine ⟨caps_congr hc (vs _ (by decide) (by decide) (by omega) (by omega)) (vs _ (by decide) (by decide) (by omega) (by omega)) (vs _ (by decide) (by decide) (by omega) (by omega)) (fun j _ _ => vs j (by omega) (by omega) (by omega) (by omega)) (fun j _ _ => vs j (by omega) (by omega) (by omega) (by omega)), iOven_c ho (fun j _ => ve j (by omega) (by omega)), iRec_c hcR h.rec (vs _ (by decide) (by decide) (by omega) (by omega)) (fun j _ _ => vs j (by omega) (by omega) (by omega) (by omega)), fun k hk => ?_, k1, iFlour_c h.flour (fun j _ _ => vs j (by omega) (by omega) (by omega) (by omega)), iNote_c hc.2.2.2.1 h.note (fun j _ _ => vs j (by omega) (by omega) (by omega) (by omega)), iShop_c hc.2.2.1 h.shop (vs _ (by decide) (by decide) (by omega) (by omega)) (fun j _ _ => vs j (by omega) (by omega) (by omega) (by omega)), ?_⟩
  · rw [cD_c (vs 6 (by decide) (by decide) (by omega) (by omega))] at hk
    obtain ⟨a1, a2, a3, ⟨a4, a5⟩, a6, a7⟩ := h.dough k hk
    rw [vs (103 + k) (by omega) (by omega) (by omega) (by omega), vs (123 + k) (by omega) (by omega) (by omega) (by omega), vs (183 + k) (by omega) (by omega) (by omega) (by omega), vs (203 + k) (by omega) (by omega) (by omega) (by omega), ve (143 + k) (by omega) (by omega), tk_0, t0i]
    have es : tk s (163 + k) = if k < cD s ∧ tk3 s (163 + k) = 2 ∧ tkC (tk3 s) k = true then 3 else tk3 s (163 + k) := L2_st _ _ _ (by omega)
    rw [es, te (163 + k) (by omega) (by omega) (by omega)]
    refine ⟨a1, a2, ?_, ⟨⟨a4.1, by have := a4.2; omega⟩, tp k hk⟩, ⟨a6.1, by have := a6.2; omega⟩, fun h9 => ?_⟩
    · split
      · exact ⟨by decide, by decide⟩
      · exact a3
    · by_cases g : k < cD s ∧ s (163 + k) = 2 ∧ tkC (tk3 s) k = true
      · rw [if_pos g] at h9; exact absurd h9 (by decide)
      · rw [if_neg g] at h9
        obtain ⟨b1, b2⟩ := a7 h9
        refine ⟨b1, ?_⟩
        have nc : ¬ (tk3 s (203 + k) + 10 = tk3 s 0) := fun h8 => g ⟨hk, h9, decide_eq_true h8⟩
        rw [te (203 + k) (by omega) (by omega) (by omega), t0, fa_eq, t0i, i32_add (by show _ ≤ (s (203 + k)).toInt + 10; omega) (by show (s (203 + k)).toInt + 10 < _; have := a6.2; omega)] at nc
        have nc : ¬ ((s (203 + k)).toInt + 10 = (s 0).toInt + 1) := nc
        omega
  · refine ⟨?_, by rw [vs 9 (by decide) (by decide) (by omega) (by omega)]; exact l1, by rw [vs 10 (by decide) (by decide) (by omega) (by omega)]; exact l2, fun k hk => by rw [vs (11 + k) (by omega) (by omega) (by omega) (by omega)]; exact h.led.2.2.2.1 k hk, by rw [vs 8 (by decide) (by decide) (by omega) (by omega)]; exact l7⟩
    rw [led_eq, ldS_c (fun j a b => vs j (by omega) (by omega) (by omega) (by omega)), vs 8 (by decide) (by decide) (by omega) (by omega), vs 9 (by decide) (by decide) (by omega) (by omega), vs 10 (by decide) (by decide) (by omega) (by omega)]
    omega
theorem Inv_tkN {N : Nat} {s : sS} (h : Inv N s) (hN : N ≤ 1000) : ∀ n : Nat, (s 0).toInt + n ≤ 100000 → Inv N (tkN s n) ∧ (tkN s n 0).toInt = (s 0).toInt + n
  | 0, _ => ⟨h, by show (s 0).toInt = (s 0).toInt + ((0 : Nat) : Int); omega⟩
  | n + 1, hn => by
    obtain ⟨h1, h2⟩ := Inv_tkN h hN n (by omega)
    have o := h.oven.1.1
    refine ⟨Inv_tk h1 hN (by omega), ?_⟩
    show (tk (tkN s n) 0).toInt = _
    rw [tk_0, i32_add (by show _ ≤ (tkN s n 0).toInt + 1; omega) (by show (tkN s n 0).toInt + 1 < _; omega), h2]
    show (s 0).toInt + ↑n + 1 = _
    omega
