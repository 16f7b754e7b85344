/-! isEvening: what is sold, crumbled, thrown away, and undone -/
theorem crG_nn {N : Nat} {s : sS} (h : Inv N s) (hN : N ≤ 1000) {r : Nat} (hr : r < cR s) : 0 ≤ crG s r := by
  obtain ⟨l1, l2, l3, l4, l5, l6, l7⟩ := led_parts h
  obtain ⟨r1, r2, r3⟩ := row_le h.base hr
  obtain ⟨b1, b2, b3⟩ := brs_toInt h.base (by omega) hr 1 (by decide)
  have hp := (h.rec.1 r hr).1
  have em : (brs s r 1).toInt * (s (19 + r)).toInt ≤ rowI s r * (s (19 + r)).toInt := Int.mul_le_mul_of_nonneg_right b2 (by have := hp.1; omega)
  have em0 : 0 ≤ (brs s r 1).toInt * (s (19 + r)).toInt := Int.mul_nonneg b3 (by have := hp.1; omega)
  have tg : (crG s r).toInt = (brs s r 1).toInt * (s (19 + r)).toInt := i32_mul (by omega) (by omega)
  rw [fa_le, tg]
  exact em0
theorem bread_b {N : Nat} {s : sS} (h : Inv N s) (hN : N ≤ 1000) {k : Nat} (hk : k < 4 * cR s) : 0 ≤ (s (223 + k)).toInt ∧ (s (223 + k)).toInt ≤ 4000000 := by
  have hcR := h.caps.1
  obtain ⟨l1, l2, l3, l4, l5, l6, l7⟩ := led_parts h
  have b := br_le h hk
  have n := (h.bread k (by omega)).1
  have hp := (h.rec.1 (k / 4) (by omega)).1
  have p1 := hp.1
  have m : (s (223 + k)).toInt * 50 ≤ (s (223 + k)).toInt * (s (19 + k / 4)).toInt := Int.mul_le_mul_of_nonneg_left p1 n
  omega
theorem edN_ge (s : sS) : ∀ k, k ≤ 6 → ∀ j, 223 + 4 * k ≤ j → edN s k j = s j
  | 0, _, _, _ => rfl
  | k + 1, hk, j, hj => by
    show edS (edN s k) k j = s j
    unfold edS
    rw [upd_ne _ _ (by omega), upd_ne _ _ (by omega), upd_ne _ _ (by omega), upd_ne _ _ (by omega), upd_ne _ _ (by omega)]
    exact edN_ge s k (by omega) j (by omega)
theorem edN_z (s : sS) {r : Nat} : ∀ k, r < k → edN s k (223 + (4 * r + 0)) = 0
  | k + 1, hk => by
    show edS (edN s k) k (223 + (4 * r + 0)) = 0
    unfold edS
    by_cases c : r = k
    · rw [c, upd_at]
    · rw [upd_ne _ _ (by omega), upd_ne _ _ (by omega), upd_ne _ _ (by omega), upd_ne _ _ (by omega), upd_ne _ _ (by omega)]
      exact edN_z s k (by omega)
theorem edA_b {N : Nat} {s : sS} (h : Inv N s) (hN : N ≤ 1000) : ∀ k, k ≤ cR s → 0 ≤ (edA s k).toInt ∧ (edA s k).toInt ≤ 4000000 * k
  | 0, _ => ⟨by show 0 ≤ (0 : Int32).toInt; decide, by show (0 : Int32).toInt ≤ 4000000 * ((0 : Nat) : Int); decide⟩
  | k + 1, hk => by
    have hcR := h.caps.1
    obtain ⟨i1, i2⟩ := edA_b h hN k (by omega)
    obtain ⟨b1, b2⟩ := bread_b h hN (k := 4 * k + 3) (by omega)
    have e : edA s (k + 1) = edA s k + s (223 + (4 * k + 3)) := by
      show edA s k + edN s k (223 + (4 * k + 3)) = _
      rw [edN_ge s k (by omega) _ (by omega)]
    rw [e, i32_add (by omega) (by omega)]
    omega
theorem slN_g (r : Nat) : ∀ (d : Nat) (x : sS × Int32 × Int32), ¬ x.2.1 = -1 → (slN r d x).2.1 = x.2.1
  | 0, _, _ => rfl
  | d + 1, x, h => by
    show (slN r d _).2.1 = x.2.1
    rw [slN_g r d _ (by show ¬ (if x.2.1 = -1 then _ else x.2.1) = -1; rw [if_neg h]; exact h)]
    exact if_neg h
theorem slN_first (r : Nat) : ∀ (d : Nat) (s : sS) (l : Int32), d ≤ 4 → 0 < l → (∀ k, k < d → 0 ≤ s (223 + (4 * r + k))) → (∃ k, k < d ∧ ¬ s (223 + (4 * r + k)) = 0) → 0 ≤ (slN r d (s, -1, l)).2.1
  | 0, _, _, _, _, _, ⟨k, h, _⟩ => absurd h (Nat.not_lt_zero k)
  | d + 1, s, l, hd, hl, hb, ⟨k, hk, hz⟩ => by
    by_cases c : s (223 + (4 * r + d)) = 0
    · have e : slN r (d + 1) (s, -1, l) = slN r d (upd s (223 + (4 * r + d)) (s (223 + (4 * r + d)) - 0), -1, l) := by
        have c1 : ¬ l ≤ s (223 + (4 * r + d)) := by
          rw [c]
          rw [fa_lt] at hl
          rw [fa_le]
          omega
        show slN r d (upd s (223 + (4 * r + d)) (s (223 + (4 * r + d)) - (if l ≤ s (223 + (4 * r + d)) then l else s (223 + (4 * r + d)))), (if (-1 : Int32) = -1 then (if (if l ≤ s (223 + (4 * r + d)) then l else s (223 + (4 * r + d))) ≤ 0 then (-1 : Int32) else nI d) else (-1 : Int32)), l - (if l ≤ s (223 + (4 * r + d)) then l else s (223 + (4 * r + d)))) = _
        rw [if_neg c1, c, if_pos rfl, if_pos (show (0 : Int32) ≤ 0 by decide), Int32.sub_zero, Int32.sub_zero]
      rw [e]
      refine slN_first r d _ l (by omega) hl (fun i hi => ?_) ⟨k, ?_, ?_⟩
      · rw [upd_ne _ _ (by omega)]
        exact hb i (by omega)
      · by_cases c2 : k = d
        · rw [c2] at hz
          exact absurd c hz
        · omega
      · by_cases c2 : k = d
        · rw [c2] at hz
          exact absurd c hz
        · rw [upd_ne _ _ (by omega)]
          exact hz
    · have p : ¬ (if l ≤ s (223 + (4 * r + d)) then l else s (223 + (4 * r + d))) ≤ 0 := by
        have h0 := hb d (by omega)
        rw [fa_le] at h0
        rw [fa_lt] at hl
        have n0 : ¬ (s (223 + (4 * r + d))).toInt = 0 := fun h9 => c (Int32.toInt_inj.mp h9)
        have z : (0 : Int32).toInt = 0 := rfl
        split
        · rw [fa_le]
          omega
        · rw [fa_le]
          omega
      have e : (slN r (d + 1) (s, -1, l)).2.1 = nI d := by
        show (slN r d (_, (if (-1 : Int32) = -1 then (if (if l ≤ s (223 + (4 * r + d)) then l else s (223 + (4 * r + d))) ≤ 0 then (-1 : Int32) else nI d) else (-1 : Int32)), _)).2.1 = _
        rw [if_pos rfl, if_neg p]
        exact slN_g r d _ (nIm1 (by omega))
      rw [e]
      exact nI_pos' (by omega)
