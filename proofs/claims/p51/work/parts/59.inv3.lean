/-! ===== WHAT HOLDS OF EVERY STATE IS KEPT, 3: breads ===== -/
def iBase (s : sS) : Prop := caps s ∧ (∀ k, k < cR s → bt (s (19 + k)) 50 2000) ∧ (∀ k, k < cD s → bt (s (123 + k)) 1 40) ∧ iBread s
theorem Inv.base {N : Nat} {s : sS} (h : Inv N s) : iBase s := ⟨h.caps, fun k hk => (h.rec.1 k hk).1, fun k hk => (h.dough k hk).2.1, h.bread⟩
theorem inDg_nn' {s : sS} (h : iBase s) : ∀ k, k < cD s → 0 ≤ inDg s k := by
  intro k hk
  unfold inDg
  split
  · have h1 := (h.2.2.1 k hk).1
    have h2 := (h.2.1 _ (drc_lt h.1 hk)).1
    exact Int.mul_nonneg (by omega) (by have : (50 : Int) ≤ (s (19 + (s (103 + k)).toNatClampNeg)).toInt := h2; omega)
  · exact Int.le_refl _
theorem brd_nn' {s : sS} (h : iBase s) : ∀ k, k < 4 * cR s → 0 ≤ (s (223 + k)).toInt * (s (19 + k / 4)).toInt := by
  intro k hk
  have hc := h.1.1
  have h1 := (h.2.2.2 k (by omega)).1
  have h2 := (h.2.1 (k / 4) (by omega)).1
  exact Int.mul_nonneg h1 (by omega)
def rowI (s : sS) (r : Nat) : Int := sumI (fun j => (s (223 + (4 * r + j))).toInt) 4
theorem rowI_eq (s : sS) (r : Nat) : rowI s r = (s (223 + (4 * r + 0))).toInt + (s (223 + (4 * r + 1))).toInt + (s (223 + (4 * r + 2))).toInt + (s (223 + (4 * r + 3))).toInt := by
  unfold rowI sumI sumI sumI sumI sumI
  omega
theorem ldB_split (s : sS) {r : Nat} (hr : r < cR s) : ldB s = sumI (fun k => (s (223 + k)).toInt * (s (19 + k / 4)).toInt) (4 * r) + rowI s r * (s (19 + r)).toInt + sumI (fun k => (s (223 + (4 * r + 4 + k))).toInt * (s (19 + (4 * r + 4 + k) / 4)).toInt) (4 * cR s - (4 * r + 4)) := by
  unfold ldB
  have e : 4 * cR s = (4 * r + 4) + (4 * cR s - (4 * r + 4)) := by omega
  rw [e, sumI_split, sumI_split, show 4 * r + 4 + (4 * cR s - (4 * r + 4)) - (4 * r + 4) = 4 * cR s - (4 * r + 4) by omega]
  congr 1
  congr 1
  rw [rowI_eq]
  show ((0 + (s (223 + (4 * r + 0))).toInt * (s (19 + (4 * r + 0) / 4)).toInt) + (s (223 + (4 * r + 1))).toInt * (s (19 + (4 * r + 1) / 4)).toInt + (s (223 + (4 * r + 2))).toInt * (s (19 + (4 * r + 2) / 4)).toInt + (s (223 + (4 * r + 3))).toInt * (s (19 + (4 * r + 3) / 4)).toInt) = _
  rw [show (4 * r + 0) / 4 = r by omega, show (4 * r + 1) / 4 = r by omega, show (4 * r + 2) / 4 = r by omega, show (4 * r + 3) / 4 = r by omega, Int.add_mul, Int.add_mul, Int.add_mul, Int.zero_add]
theorem row_le {s : sS} (h : iBase s) {r : Nat} (hr : r < cR s) : 0 ≤ rowI s r ∧ rowI s r * (s (19 + r)).toInt ≤ ldB s ∧ rowI s r * 50 ≤ ldB s := by
  have hc := h.1.1
  have h1 := sumI_nn (f := fun k => (s (223 + k)).toInt * (s (19 + k / 4)).toInt) (4 * r) (fun k hk => brd_nn' h k (by omega))
  have h2 := sumI_nn (f := fun k => (s (223 + (4 * r + 4 + k))).toInt * (s (19 + (4 * r + 4 + k) / 4)).toInt) (4 * cR s - (4 * r + 4)) (fun k hk => brd_nn' h _ (by omega))
  have h3 : 0 ≤ rowI s r := sumI_nn 4 (fun j hj => (h.2.2.2 (4 * r + j) (by omega)).1)
  have h4 := ldB_split s hr
  have h5 : rowI s r * 50 ≤ rowI s r * (s (19 + r)).toInt := Int.mul_le_mul_of_nonneg_left (h.2.1 r hr).1 h3
  exact ⟨h3, by omega, by omega⟩
/-- a change of one recipe's breads -/
theorem ldB_row {s s' : sS} (hc : cR s ≤ 6) {r : Nat} (hr : r < cR s) (e5 : s' 5 = s 5) (ep : ∀ j, 19 ≤ j → j < 25 → s' j = s j) (e : ∀ k, k < 24 → ¬ (4 * r ≤ k ∧ k < 4 * r + 4) → s' (223 + k) = s (223 + k)) : ldB s' = ldB s + (rowI s' r - rowI s r) * (s (19 + r)).toInt := by
  have eR := cR_c e5
  rw [ldB_split s hr, ldB_split s' (r := r) (by omega), eR, ep (19 + r) (by omega) (by omega), Int.sub_mul]
  rw [sumI_congr (f := fun k => (s' (223 + k)).toInt * (s' (19 + k / 4)).toInt) (g := fun k => (s (223 + k)).toInt * (s (19 + k / 4)).toInt) (4 * r) (fun k hk => by rw [e k (by omega) (by omega), ep (19 + k / 4) (by omega) (by omega)])]
  rw [sumI_congr (f := fun k => (s' (223 + (4 * r + 4 + k))).toInt * (s' (19 + (4 * r + 4 + k) / 4)).toInt) (g := fun k => (s (223 + (4 * r + 4 + k))).toInt * (s (19 + (4 * r + 4 + k) / 4)).toInt) _ (fun k hk => by rw [e (4 * r + 4 + k) (by omega) (by omega), ep (19 + (4 * r + 4 + k) / 4) (by omega) (by omega)])]
  omega
theorem iBread_row {s s' : sS} (h : iBread s) {r : Nat} (hr : r < cR s) (e5 : s' 5 = s 5) (e : ∀ k, k < 24 → ¬ (4 * r ≤ k ∧ k < 4 * r + 4) → s' (223 + k) = s (223 + k)) (hn : ∀ j, j < 4 → 0 ≤ (s' (223 + (4 * r + j))).toInt) : iBread s' := by
  intro k hk
  rw [cR_c e5]
  by_cases g : 4 * r ≤ k ∧ k < 4 * r + 4
  · have := hn (k - 4 * r) (by omega)
    rw [show 4 * r + (k - 4 * r) = k by omega] at this
    exact ⟨this, fun h9 => by omega⟩
  · rw [e k hk g]; exact h k hk
theorem brs_toInt {s : sS} (h : iBase s) (hb : ldB s < 2147483648) {r : Nat} (hr : r < cR s) (a : Nat) (ha : a ≤ 4) : (brs s r a).toInt = sumI (fun j => (s (223 + (4 * r + (a + j)))).toInt) (4 - a) ∧ (brs s r a).toInt ≤ rowI s r ∧ 0 ≤ (brs s r a).toInt := by
  have hc := h.1.1
  have hn : ∀ j, j < 4 → 0 ≤ (s (223 + (4 * r + j))).toInt := fun j hj => (h.2.2.2 (4 * r + j) (by omega)).1
  have e1 : rowI s r = sumI (fun j => (s (223 + (4 * r + j))).toInt) a + sumI (fun j => (s (223 + (4 * r + (a + j)))).toInt) (4 - a) := by
    unfold rowI
    have := sumI_split (fun j => (s (223 + (4 * r + j))).toInt) a (4 - a)
    rw [show a + (4 - a) = 4 by omega] at this
    exact this
  have n1 := sumI_nn (f := fun j => (s (223 + (4 * r + j))).toInt) a (fun j hj => hn j (by omega))
  have n2 := sumI_nn (f := fun j => (s (223 + (4 * r + (a + j)))).toInt) (4 - a) (fun j hj => hn (a + j) (by omega))
  have := row_le h hr
  have e2 : (brs s r a).toInt = sumI (fun j => (s (223 + (4 * r + (a + j)))).toInt) (4 - a) := s32_toInt (4 - a) (fun j hj => hn (a + j) (by omega)) (by omega)
  exact ⟨e2, by omega, by omega⟩
theorem Inv_crumble {N : Nat} {s : sS} (h : Inv N s) (hN : N ≤ 1000) {r : Nat} (hr : r < cR s) : Inv N (crS s r) := by
  have hc := h.caps
  have hcR := hc.1
  obtain ⟨l1, l2, l3, l4, l5, l6, l7⟩ := led_parts h
  obtain ⟨r1, r2, r3⟩ := row_le h.base hr
  obtain ⟨b1, b2, b3⟩ := brs_toInt h.base (by omega) hr 1 (by decide)
  have hp := (h.rec.1 r hr).1
  generalize hs : crS s r = s'
  have e1 : ∀ j, j ≠ 18 → ¬ (223 + (4 * r + 1) ≤ j ∧ j < 223 + (4 * r + 4)) → s' j = s j := fun j a b => by
    rw [← hs]; unfold crS; simp (disch := omega) only [upd_ne]
  have em : (brs s r 1).toInt * (s (19 + r)).toInt ≤ rowI s r * (s (19 + r)).toInt := Int.mul_le_mul_of_nonneg_right b2 (by have := hp.1; omega)
  have em0 : 0 ≤ (brs s r 1).toInt * (s (19 + r)).toInt := Int.mul_nonneg b3 (by have := hp.1; omega)
  have tg : (crG s r).toInt = (brs s r 1).toInt * (s (19 + r)).toInt := i32_mul (by omega) (by omega)
  have hst : (s (11 + 7)).toInt ≤ ldS s := st_le h (k := 7) (by decide)
  have hst0 : 0 ≤ (s (11 + 7)).toInt := h.led.2.2.2.1 7 (by decide)
  have e18 : s' 18 = s 18 + crG s r := by rw [← hs]; unfold crS; exact upd_at _ _ _
  have t18 : (s 18 + crG s r).toInt = (s 18).toInt + (crG s r).toInt := i32_add (by rw [tg]; have : 0 ≤ (s 18).toInt := hst0; omega) (by rw [tg]; have : (s 18).toInt ≤ ldS s := hst; omega)
  have z : ∀ j, 1 ≤ j → j < 4 → s' (223 + (4 * r + j)) = 0 := fun j a b => by
    rw [← hs]; unfold crS
    rcases (show j = 1 ∨ j = 2 ∨ j = 3 by omega) with e | e | e <;> subst e <;> simp (disch := omega) only [upd_ne, upd_at]
  have hrow : rowI s' r = rowI s r - (brs s r 1).toInt := by
    rw [rowI_eq, rowI_eq, z 1 (by decide) (by decide), z 2 (by decide) (by decide), z 3 (by decide) (by decide), e1 (223 + (4 * r + 0)) (by omega) (by omega), b1]
    show _ + 0 + 0 + 0 = _ - (0 + (s (223 + (4 * r + (1 + 0)))).toInt + (s (223 + (4 * r + (1 + 1)))).toInt + (s (223 + (4 * r + (1 + 2)))).toInt)
    rw [show 1 + 0 = 1 from rfl, show 1 + 1 = 2 from rfl, show 1 + 2 = 3 from rfl]
    omega
  refine Inv_led h (fun j hj => e1 j (by omega) (by omega)) (iDough_c hc.2.1 h.dough (e1 0 (by omega) (by omega)) (e1 6 (by omega) (by omega)) (fun j a b => e1 j (by omega) (by omega))) (iBread_row h.bread hr (e1 5 (by omega) (by omega)) (fun k hk hn => e1 (223 + k) (by omega) (by omega)) (fun j hj => ?_)) ?_
  · by_cases e : j = 0
    · subst e; rw [e1 (223 + (4 * r + 0)) (by omega) (by omega)]; exact (h.bread (4 * r + 0) (by omega)).1
    · rw [z j (by omega) hj]; decide
  · have hB := ldB_row (s' := s') hcR hr (e1 5 (by omega) (by omega)) (fun j a b => e1 j (by omega) (by omega)) (fun k hk hn => e1 (223 + k) (by omega) (by omega))
    have hS : ldS s' = ldS s + (crG s r).toInt := by
      unfold ldS
      rw [sumI_one (f := fun k => (s (11 + k)).toInt) 8 7 (by decide) (fun k hk he => by rw [e1 (11 + k) (by omega) (by omega)])]
      rw [show 11 + 7 = 18 from rfl, e18, t18]
      omega
    have hD : ldD s' = ldD s := ldD_c hc (e1 6 (by omega) (by omega)) (fun j hj => e1 j (by omega) (by omega))
    refine ⟨?_, by rw [e1 9 (by omega) (by omega)]; exact l1, by rw [e1 10 (by omega) (by omega)]; exact l2, fun k hk => ?_, by rw [e1 8 (by omega) (by omega)]; exact l7⟩
    · rw [led_eq, hS, hD, hB, hrow, e1 8 (by omega) (by omega), e1 9 (by omega) (by omega), e1 10 (by omega) (by omega), tg]
      have : (rowI s r - (brs s r 1).toInt - rowI s r) * (s (19 + r)).toInt = -((brs s r 1).toInt * (s (19 + r)).toInt) := by
        rw [show rowI s r - (brs s r 1).toInt - rowI s r = -(brs s r 1).toInt by omega, Int.neg_mul]
      omega
    · by_cases e : k = 7
      · subst e; rw [show 11 + 7 = 18 from rfl, e18, t18, tg]; have : 0 ≤ (s 18).toInt := hst0; omega
      · rw [e1 (11 + k) (by omega) (by omega)]; exact h.led.2.2.2.1 k hk
theorem Inv_edS {N : Nat} {s : sS} (h : Inv N s) (hN : N ≤ 1000) {r : Nat} (hr : r < cR s) : Inv N (edS s r) := by
  have hc := h.caps
  have hcR := hc.1
  obtain ⟨l1, l2, l3, l4, l5, l6, l7⟩ := led_parts h
  obtain ⟨r1, r2, r3⟩ := row_le h.base hr
  have hp := (h.rec.1 r hr).1
  have hn : ∀ j, j < 4 → 0 ≤ (s (223 + (4 * r + j))).toInt := fun j hj => (h.bread (4 * r + j) (by omega)).1
  have hrw := rowI_eq s r
  have n0 := hn 0 (by decide)
  have n1 := hn 1 (by decide)
  have n2 := hn 2 (by decide)
  have n3 := hn 3 (by decide)
  generalize hs : edS s r = s'
  have e1 : ∀ j, j ≠ 10 → ¬ (223 + (4 * r + 0) ≤ j ∧ j < 223 + (4 * r + 4)) → s' j = s j := fun j a b => by
    rw [← hs]; unfold edS; simp (disch := omega) only [upd_ne]
  have em : (s (223 + (4 * r + 3))).toInt * (s (19 + r)).toInt ≤ rowI s r * (s (19 + r)).toInt := Int.mul_le_mul_of_nonneg_right (by omega) (by have := hp.1; omega)
  have em0 : 0 ≤ (s (223 + (4 * r + 3))).toInt * (s (19 + r)).toInt := Int.mul_nonneg n3 (by have := hp.1; omega)
  have tg : (s (223 + (4 * r + 3)) * s (19 + r)).toInt = (s (223 + (4 * r + 3))).toInt * (s (19 + r)).toInt := i32_mul (by omega) (by omega)
  have e10 : s' 10 = s 10 + s (223 + (4 * r + 3)) * s (19 + r) := by rw [← hs]; unfold edS; simp (disch := omega) only [upd_ne, upd_at]
  have t10 : (s 10 + s (223 + (4 * r + 3)) * s (19 + r)).toInt = (s 10).toInt + (s (223 + (4 * r + 3))).toInt * (s (19 + r)).toInt := by
    rw [i32_add, tg] <;> rw [tg] <;> omega
  have z0 : s' (223 + (4 * r + 0)) = 0 := by rw [← hs]; unfold edS; simp (disch := omega) only [upd_ne, upd_at]
  have z1 : s' (223 + (4 * r + 1)) = s (223 + (4 * r + 0)) := by rw [← hs]; unfold edS; simp (disch := omega) only [upd_ne, upd_at]
  have z2 : s' (223 + (4 * r + 2)) = s (223 + (4 * r + 1)) := by rw [← hs]; unfold edS; simp (disch := omega) only [upd_ne, upd_at]
  have z3 : s' (223 + (4 * r + 3)) = s (223 + (4 * r + 2)) := by rw [← hs]; unfold edS; simp (disch := omega) only [upd_ne, upd_at]
  have hrow : rowI s' r = rowI s r - (s (223 + (4 * r + 3))).toInt := by
    rw [rowI_eq, hrw, z0, z1, z2, z3]
    show (0 : Int) + _ + _ + _ = _
    omega
  refine Inv_led h (fun j hj => e1 j (by omega) (by omega)) (iDough_c hc.2.1 h.dough (e1 0 (by omega) (by omega)) (e1 6 (by omega) (by omega)) (fun j a b => e1 j (by omega) (by omega))) (iBread_row h.bread hr (e1 5 (by omega) (by omega)) (fun k hk hn => e1 (223 + k) (by omega) (by omega)) (fun j hj => ?_)) ?_
  · rcases (show j = 0 ∨ j = 1 ∨ j = 2 ∨ j = 3 by omega) with e | e | e | e <;> subst e
    · rw [z0]; decide
    · rw [z1]; exact n0
    · rw [z2]; exact n1
    · rw [z3]; exact n2
  · have hB := ldB_row (s' := s') hcR hr (e1 5 (by omega) (by omega)) (fun j a b => e1 j (by omega) (by omega)) (fun k hk hn => e1 (223 + k) (by omega) (by omega))
    have hS : ldS s' = ldS s := ldS_c (fun j a b => e1 j (by omega) (by omega))
    have hD : ldD s' = ldD s := ldD_c hc (e1 6 (by omega) (by omega)) (fun j hj => e1 j (by omega) (by omega))
    refine ⟨?_, by rw [e1 9 (by omega) (by omega)]; exact l1, by rw [e10, t10]; omega, fun k hk => by rw [e1 (11 + k) (by omega) (by omega)]; exact h.led.2.2.2.1 k hk, by rw [e1 8 (by omega) (by omega)]; exact l7⟩
    rw [led_eq, hS, hD, hB, hrow, e1 8 (by omega) (by omega), e1 9 (by omega) (by omega), e10, t10]
    have : (rowI s r - (s (223 + (4 * r + 3))).toInt - rowI s r) * (s (19 + r)).toInt = -((s (223 + (4 * r + 3))).toInt * (s (19 + r)).toInt) := by
      rw [show rowI s r - (s (223 + (4 * r + 3))).toInt - rowI s r = -(s (223 + (4 * r + 3))).toInt by omega, Int.neg_mul]
    omega
theorem Inv_edN {N : Nat} {s : sS} (h : Inv N s) (hN : N ≤ 1000) : ∀ k, k ≤ cR s → Inv N (edN s k)
  | 0, _ => h
  | k + 1, hk => Inv_edS (Inv_edN h hN k (by omega)) hN (by rw [(edN_caps h.caps k (by have := h.caps.1; omega)).2]; omega)
theorem slN_sum (r : Nat) (hr : r < 6) : ∀ (d : Nat) (x : sS × Int32 × Int32), d ≤ 4 → 0 ≤ x.2.2.toInt → (∀ k, k < d → 0 ≤ (x.1 (223 + (4 * r + k))).toInt) →
    (∀ k, k < d → 0 ≤ ((slN r d x).1 (223 + (4 * r + k))).toInt) ∧ 0 ≤ (slN r d x).2.2.toInt ∧ (slN r d x).2.2.toInt ≤ x.2.2.toInt ∧
    sumI (fun j => ((slN r d x).1 (223 + (4 * r + j))).toInt) d = sumI (fun j => (x.1 (223 + (4 * r + j))).toInt) d - (x.2.2.toInt - (slN r d x).2.2.toInt) ∧
    ((slN r d x).2.2.toInt = 0 ∨ sumI (fun j => ((slN r d x).1 (223 + (4 * r + j))).toInt) d = 0)
  | 0, x, _, h0, _ => ⟨fun k hk => absurd hk (Nat.not_lt_zero k), h0, Int.le_refl _, by show (0 : Int) = 0 - (x.2.2.toInt - x.2.2.toInt); omega, Or.inr rfl⟩
  | d + 1, (s0, g0, l0), hd, h0, hn => by
    have h0 : 0 ≤ l0.toInt := h0
    have hn : ∀ k, k < d + 1 → 0 ≤ (s0 (223 + (4 * r + k))).toInt := hn
    have nd := hn d (by omega)
    have e : slN r (d + 1) (s0, g0, l0) = slN r d (upd s0 (223 + (4 * r + d)) (s0 (223 + (4 * r + d)) - (if l0 ≤ s0 (223 + (4 * r + d)) then l0 else s0 (223 + (4 * r + d)))), (if g0 = -1 then (if (if l0 ≤ s0 (223 + (4 * r + d)) then l0 else s0 (223 + (4 * r + d))) ≤ 0 then g0 else nI d) else g0), l0 - (if l0 ≤ s0 (223 + (4 * r + d)) then l0 else s0 (223 + (4 * r + d)))) := rfl
    generalize ht : (if l0 ≤ s0 (223 + (4 * r + d)) then l0 else s0 (223 + (4 * r + d))) = t at e
    have ht' : t.toInt = if l0.toInt ≤ (s0 (223 + (4 * r + d))).toInt then l0.toInt else (s0 (223 + (4 * r + d))).toInt := by
      rw [← ht]
      by_cases g : l0 ≤ s0 (223 + (4 * r + d))
      · rw [if_pos g, if_pos ((fa_le _ _).mp g)]
      · rw [if_neg g, if_neg (fun h9 => g ((fa_le _ _).mpr h9))]
    have tb : 0 ≤ t.toInt ∧ t.toInt ≤ l0.toInt ∧ t.toInt ≤ (s0 (223 + (4 * r + d))).toInt ∧ (t.toInt = l0.toInt ∨ t.toInt = (s0 (223 + (4 * r + d))).toInt) := by
      rw [ht']; split <;> omega
    have u1 : (s0 (223 + (4 * r + d)) - t).toInt = (s0 (223 + (4 * r + d))).toInt - t.toInt := i32_sub (by omega) (by have := (s0 (223 + (4 * r + d))).toInt_lt; omega)
    have u2 : (l0 - t).toInt = l0.toInt - t.toInt := i32_sub (by omega) (by have := l0.toInt_lt; omega)
    rw [e]
    generalize hg1 : (if g0 = -1 then (if t ≤ 0 then g0 else nI d) else g0) = g1
    obtain ⟨c1, c2, c3, c4, c5⟩ := slN_sum r hr d (upd s0 (223 + (4 * r + d)) (s0 (223 + (4 * r + d)) - t), g1, l0 - t) (by omega) (by show 0 ≤ (l0 - t).toInt; omega) (fun k hk => by
      show 0 ≤ (upd _ _ _ (223 + (4 * r + k))).toInt
      rw [upd_ne _ _ (by omega)]; exact hn k (by omega))
    have ed : (slN r d (upd s0 (223 + (4 * r + d)) (s0 (223 + (4 * r + d)) - t), g1, l0 - t)).1 (223 + (4 * r + d)) = s0 (223 + (4 * r + d)) - t := (slN_out r d _ _ (by omega)).trans (upd_at _ _ _)
    have es : sumI (fun j => (upd s0 (223 + (4 * r + d)) (s0 (223 + (4 * r + d)) - t) (223 + (4 * r + j))).toInt) d = sumI (fun j => (s0 (223 + (4 * r + j))).toInt) d := sumI_congr d (fun k hk => by rw [upd_ne _ _ (by omega)])
    have c3 : _ ≤ (l0 - t).toInt := c3
    have c4 : _ = sumI (fun j => (upd s0 (223 + (4 * r + d)) (s0 (223 + (4 * r + d)) - t) (223 + (4 * r + j))).toInt) d - ((l0 - t).toInt - _) := c4
    rw [es] at c4
    have f1 : ∀ f : Nat → Int, sumI f (d + 1) = sumI f d + f d := fun _ => rfl
    have n9 : 0 ≤ sumI (fun j => (s0 (223 + (4 * r + j))).toInt) d := sumI_nn d (fun k hk => hn k (by omega))
    refine ⟨fun k hk => ?_, c2, by show _ ≤ l0.toInt; omega, ?_, ?_⟩
    · by_cases ek : k = d
      · subst ek; rw [ed, u1]; omega
      · exact c1 k (by omega)
    · rw [f1, f1, ed, u1, c4, u2]
      show _ = sumI (fun j => (s0 (223 + (4 * r + j))).toInt) d + (s0 (223 + (4 * r + d))).toInt - (l0.toInt - _)
      omega
    · rw [f1, ed, u1]
      rcases c5 with c5 | c5
      · exact Or.inl c5
      · rcases tb.2.2.2 with t1 | t1
        · left; omega
        · right; rw [c5]; omega
theorem Inv_sell {N : Nat} {s : sS} (h : Inv N s) (hN : N ≤ 1000) {r : Nat} (hr : r < cR s) {p : Int32} (hp : 1 ≤ p ∧ p ≤ 99) (g : ¬ brs s r 0 < p) : Inv N (seS s r p) := by
  have hc := h.caps
  have hcR := hc.1
  obtain ⟨l1, l2, l3, l4, l5, l6, l7⟩ := led_parts h
  obtain ⟨r1, r2, r3⟩ := row_le h.base hr
  obtain ⟨b1, b2, b3⟩ := brs_toInt h.base (by omega) hr 0 (by decide)
  have hb : bt p 1 99 := bt_of (by decide) (by decide) hp
  have hpc := (h.rec.1 r hr).1
  have hn : ∀ j, j < 4 → 0 ≤ (s (223 + (4 * r + j))).toInt := fun j hj => (h.bread (4 * r + j) (by omega)).1
  obtain ⟨c1, c2, c3, c4, c5⟩ := slN_sum r (by omega) 4 (s, -1, p) (Nat.le_refl _) (by show 0 ≤ p.toInt; have := hb.1; omega) hn
  have eb : (brs s r 0).toInt = rowI s r := by
    rw [b1]
    unfold rowI
    exact sumI_congr 4 (fun k hk => by rw [Nat.zero_add])
  rw [fa_lt, eb] at g
  have hrow : rowI (slN r 4 (s, -1, p)).1 r = rowI s r - p.toInt := by
    have c4 : rowI (slN r 4 (s, -1, p)).1 r = rowI s r - (p.toInt - (slN r 4 (s, -1, p)).2.2.toInt) := c4
    have c5 : (slN r 4 (s, -1, p)).2.2.toInt = 0 ∨ rowI (slN r 4 (s, -1, p)).1 r = 0 := c5
    rcases c5 with c5 | c5
    · omega
    · omega
  have eo := slN_out r 4 (s, -1, p)
  generalize hs : seS s r p = s'
  have e1 : ∀ j, j ≠ 9 → ¬ (223 + 4 * r ≤ j ∧ j < 223 + (4 * r + 4)) → s' j = s j := fun j a b => by
    rw [← hs]; unfold seS; rw [upd_ne _ _ a]; exact eo j (by omega)
  have e2 : ∀ j, j < 4 → s' (223 + (4 * r + j)) = (slN r 4 (s, -1, p)).1 (223 + (4 * r + j)) := fun j hj => by
    rw [← hs]; unfold seS; rw [upd_ne _ _ (by omega)]
  have e9 : s' 9 = s 9 + p * s (19 + r) := by
    rw [← hs]; unfold seS; rw [upd_at, eo 9 (by omega), eo (19 + r) (by omega)]
  have em : p.toInt * (s (19 + r)).toInt ≤ rowI s r * (s (19 + r)).toInt := Int.mul_le_mul_of_nonneg_right (by omega) (by have := hpc.1; omega)
  have em0 : 0 ≤ p.toInt * (s (19 + r)).toInt := Int.mul_nonneg (by have := hb.1; omega) (by have := hpc.1; omega)
  have tg : (p * s (19 + r)).toInt = p.toInt * (s (19 + r)).toInt := i32_mul (by omega) (by omega)
  have t9 : (s 9 + p * s (19 + r)).toInt = (s 9).toInt + p.toInt * (s (19 + r)).toInt := by
    rw [i32_add, tg] <;> rw [tg] <;> omega
  have hrow' : rowI s' r = rowI s r - p.toInt := by
    rw [← hrow]
    unfold rowI
    exact sumI_congr 4 (fun k hk => by rw [e2 k hk])
  refine Inv_led h (fun j hj => e1 j (by omega) (by omega)) (iDough_c hc.2.1 h.dough (e1 0 (by omega) (by omega)) (e1 6 (by omega) (by omega)) (fun j a b => e1 j (by omega) (by omega))) (iBread_row h.bread hr (e1 5 (by omega) (by omega)) (fun k hk hn => e1 (223 + k) (by omega) (by omega)) (fun j hj => by rw [e2 j hj]; exact c1 j hj)) ?_
  have hB := ldB_row (s' := s') hcR hr (e1 5 (by omega) (by omega)) (fun j a b => e1 j (by omega) (by omega)) (fun k hk hn => e1 (223 + k) (by omega) (by omega))
  have hS : ldS s' = ldS s := ldS_c (fun j a b => e1 j (by omega) (by omega))
  have hD : ldD s' = ldD s := ldD_c hc (e1 6 (by omega) (by omega)) (fun j hj => e1 j (by omega) (by omega))
  refine ⟨?_, by rw [e9, t9]; omega, by rw [e1 10 (by omega) (by omega)]; exact l2, fun k hk => by rw [e1 (11 + k) (by omega) (by omega)]; exact h.led.2.2.2.1 k hk, by rw [e1 8 (by omega) (by omega)]; exact l7⟩
  rw [led_eq, hS, hD, hB, hrow', e1 8 (by omega) (by omega), e1 10 (by omega) (by omega), e9, t9]
  have : (rowI s r - p.toInt - rowI s r) * (s (19 + r)).toInt = -(p.toInt * (s (19 + r)).toInt) := by
    rw [show rowI s r - p.toInt - rowI s r = -p.toInt by omega, Int.neg_mul]
  omega
