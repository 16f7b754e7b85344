/-! ===== CRUMBLE, END OF DAY, SELL ===== -/
theorem xFU5e : ∃ n, xFU = n + 1 + 1 + 1 + 1 + 1 + 1 := ⟨8186, rfl⟩
theorem nI_negsub (j : Nat) : nI (j + 1) + (-1) = nI j := by
  have h := nI_pred j
  rw [Int32.sub_eq_add_neg] at h
  exact h
theorem x_cr31 (n : Nat) (g : Int32) (r j : Nat) (hr : r < 6) (hj : j < 4) (σ : xSt) : fX11_crumble_c31 (n + 1) (nI r) g (nI j) σ = fX11_crumble_c31 n (nI r) g (nI (j + 1)) (xu σ 28 (4 * r + j) 0) := by
  rw [fX11_crumble_c31_s, if_neg (show ¬ (4 : Int32) ≤ nI j from nI_ge (a := j) (b := 4) (by omega) (by decide)), show (4 : Int32) = nI 4 from rfl, nI_mul, Nat.mul_comm r 4, nI_add, xs_n (by omega) (by decide), xl_t, nI_1]
theorem x_cr31e (n : Nat) (g : Int32) (r : Nat) (σ : xSt) : fX11_crumble_c31 (n + 1) (nI r) g (nI 4) σ = some (.inl g, xu σ 3 7 (σ 3 7 + g)) := by
  rw [fX11_crumble_c31_s, if_pos (show (4 : Int32) ≤ nI 4 by decide), show (7 : Int32) = nI 7 from rfl, xr_n (by decide) (by decide), xs_n (by decide) (by decide)]
theorem x_go18 (n : Nat) (b : Nat) (hb : b < 21) (v : Int32) (j : Nat) (hj : j < 3) (σ : xSt) : fX0_growOlder_c18 (n + 1) (nI b) v (nI (j + 1)) σ = fX0_growOlder_c18 n (nI b) v (nI j) (xu σ 28 (b + (j + 1)) (σ 28 (b + j))) := by
  rw [fX0_growOlder_c18_s, if_neg (show ¬ nI (j + 1) ≤ (0 : Int32) from nI_ge (a := 0) (b := j + 1) (by omega) (by omega)), nI_add, show nI (b + (j + 1)) - 1 = nI (b + j) from nI_pred (b + j), xr_n (by omega) (by decide), xs_n (by omega) (by decide), xl_t, nI_negsub]
theorem x_go18e (n : Nat) (b : Nat) (hb : b < 21) (v : Int32) (σ : xSt) : fX0_growOlder_c18 (n + 1) (nI b) v (nI 0) σ = some (v, xu σ 28 b 0) := by
  rw [fX0_growOlder_c18_s, if_pos (show nI 0 ≤ (0 : Int32) by decide), xs_n (by omega) (by decide)]
theorem upd_same {f : Nat → Int32} {i : Nat} {x : Int32} (h : f i = x) : upd f i x = f := by
  funext j
  unfold upd
  split
  · rename_i h9; rw [h9]; exact h.symm
  · rfl
theorem upd_swap (f : Nat → Int32) {i j : Nat} (h : i ≠ j) (x y : Int32) : upd (upd f i x) j y = upd (upd f j y) i x := by
  funext k
  unfold upd
  by_cases e1 : k = j
  · rw [if_pos e1, if_neg (fun h9 => h (h9.symm.trans e1)), if_pos e1]
  · rw [if_neg e1, if_neg e1]
theorem brs1 (s : sS) (r : Nat) : brs s r 1 = 0 + s (223 + (4 * r + 1)) + s (223 + (4 * r + 2)) + s (223 + (4 * r + 3)) := rfl
def crG (s : sS) (r : Nat) : Int32 := brs s r 1 * s (19 + r)
def crS (s : sS) (r : Nat) : sS := upd (upd (upd (upd s (223 + (4 * r + 1)) 0) (223 + (4 * r + 2)) 0) (223 + (4 * r + 3)) 0) 18 (s 18 + crG s r)
def sp_crumble (p0 : Int32) (a : xA) : xO × xA := if 0 ≤ p0 ∧ p0 ≤ a.2.1 5 - 1 then (.inl (crG a.2.1 p0.toNatClampNeg), (kp a.1 a.2.1, crS a.2.1 p0.toNatClampNeg, a.2.2)) else (.inr 0, a)
theorem X_crumble {N : Nat} {σ : xSt} {H : List sS} {s : sS} {tx : (Nat → Int32) × Nat} (h : RX σ (H, s, tx)) (hI : Inv N s) (p0 : Int32) : XR (fX11_crumble p0 σ) (sp_crumble p0 (H, s, tx)) := by
  have hc := hI.caps
  obtain ⟨hcR, hcD, hcS, hcN, hrec, hE5, hE6, hE7, hE9⟩ := id hc
  unfold fX11_crumble sp_crumble
  rw [X_needRecipe h]
  show XR (xct (if 0 ≤ p0 ∧ p0 ≤ s 5 - 1 then _ else _) _) (if 0 ≤ p0 ∧ p0 ≤ s 5 - 1 then _ else _)
  by_cases g1 : 0 ≤ p0 ∧ p0 ≤ s 5 - 1
  · rw [if_pos g1, if_pos g1, xct_l]
    obtain ⟨r, hr, rfl⟩ := x_cnt hE5 (by omega) g1
    have hr : r < cR s := hr
    rw [nI_clamp (show r < 2 ^ 31 by omega)]
    obtain ⟨σ1, e1, h1, -⟩ := X_remember h
    have ef : fX0_from (nI r) 1 σ1 = some (brs s r 1, σ1) := X_from h1 (r := r) (a := 1) (by omega) (by decide)
    have a1 : σ1 5 r = s (19 + r) := X_at_piece h1 hr
    have a2 : σ1 3 7 = s 18 := X_at_grams h1 (by decide)
    obtain ⟨n5, xFU5⟩ := xFU5e
    rw [e1, xc_t, ef, xc2_t, xr_n (by omega) (by decide), a1, xl_t, xFU5]
    have h2 := X_set_breads h1 hc (show 4 * r + 1 < 24 by omega) 0
    have c2 : caps (upd s (223 + (4 * r + 1)) 0) := hc.upd (by omega) _
    have h3 := X_set_breads h2 c2 (show 4 * r + 2 < 24 by omega) 0
    have c3 : caps (upd (upd s (223 + (4 * r + 1)) 0) (223 + (4 * r + 2)) 0) := c2.upd (by omega) _
    have h4 := X_set_breads h3 c3 (show 4 * r + 3 < 24 by omega) 0
    have c4 : caps (upd (upd (upd s (223 + (4 * r + 1)) 0) (223 + (4 * r + 2)) 0) (223 + (4 * r + 3)) 0) := c3.upd (by omega) _
    have h5 := X_set_grams h4 c4 (show 7 < 8 by decide) (s 18 + crG s r)
    rw [show (1 : Int32) = nI 1 from rfl, x_cr31 _ _ _ _ (by omega) (by omega), x_cr31 _ _ _ _ (by omega) (by omega), x_cr31 _ _ _ _ (by omega) (by omega), x_cr31e]
    simp (disch := omega) only [xu_ne, a2]
    exact ⟨_, rfl, h5⟩
  · rw [if_neg g1, if_neg g1, xct_r]
    exact ⟨σ, rfl, h⟩
def edS (s : sS) (r : Nat) : sS := upd (upd (upd (upd (upd s 10 (s 10 + s (223 + (4 * r + 3)) * s (19 + r))) (223 + (4 * r + 3)) (s (223 + (4 * r + 2)))) (223 + (4 * r + 2)) (s (223 + (4 * r + 1)))) (223 + (4 * r + 1)) (s (223 + (4 * r + 0)))) (223 + (4 * r + 0)) 0
def edN (s : sS) : Nat → sS
  | 0 => s
  | k + 1 => edS (edN s k) k
def edA (s : sS) : Nat → Int32
  | 0 => 0
  | k + 1 => edA s k + edN s k (223 + (4 * k + 3))
theorem edS_caps {s : sS} (hc : caps s) {r : Nat} (hr : r < 6) : caps (edS s r) := ((((hc.upd (by omega) _).upd (by omega) _).upd (by omega) _).upd (by omega) _).upd (by omega) _
theorem edS_cR (s : sS) {r : Nat} (hr : r < 6) : cR (edS s r) = cR s := by unfold edS; simp (disch := omega) only [cR_ne]
theorem edN_caps {s : sS} (hc : caps s) : ∀ k, k ≤ 6 → caps (edN s k) ∧ cR (edN s k) = cR s
  | 0, _ => ⟨hc, rfl⟩
  | k + 1, hk => ⟨edS_caps (edN_caps hc k (by omega)).1 (by omega), (edS_cR _ (by omega)).trans (edN_caps hc k (by omega)).2⟩
theorem X_growOlder {σ : xSt} {H : List sS} {s : sS} {tx : (Nat → Int32) × Nat} (h : RX σ (H, s, tx)) (hc : caps s) {r : Nat} (hr : r < 6) : ∃ σ', fX0_growOlder (nI r) σ = some (s (223 + (4 * r + 3)), σ') ∧ RX σ' (H, upd (upd (upd (upd s (223 + (4 * r + 3)) (s (223 + (4 * r + 2)))) (223 + (4 * r + 2)) (s (223 + (4 * r + 1)))) (223 + (4 * r + 1)) (s (223 + (4 * r + 0)))) (223 + (4 * r + 0)) 0, tx) := by
  have b0 : σ 28 (4 * r + 0) = s (223 + (4 * r + 0)) := X_at_breads h (by omega)
  have b1 : σ 28 (4 * r + 1) = s (223 + (4 * r + 1)) := X_at_breads h (by omega)
  have b2 : σ 28 (4 * r + 2) = s (223 + (4 * r + 2)) := X_at_breads h (by omega)
  have b3 : σ 28 (4 * r + 3) = s (223 + (4 * r + 3)) := X_at_breads h (by omega)
  have h1 := X_set_breads h hc (show 4 * r + 3 < 24 by omega) (s (223 + (4 * r + 2)))
  have c1 : caps (upd s (223 + (4 * r + 3)) (s (223 + (4 * r + 2)))) := hc.upd (by omega) _
  have h2 := X_set_breads h1 c1 (show 4 * r + 2 < 24 by omega) (s (223 + (4 * r + 1)))
  have c2 := c1.upd (j := 223 + (4 * r + 2)) (by omega) (s (223 + (4 * r + 1)))
  have h3 := X_set_breads h2 c2 (show 4 * r + 1 < 24 by omega) (s (223 + (4 * r + 0)))
  have c3 := c2.upd (j := 223 + (4 * r + 1)) (by omega) (s (223 + (4 * r + 0)))
  have h4 := X_set_breads h3 c3 (show 4 * r + 0 < 24 by omega) 0
  refine ⟨_, ?_, h4⟩
  unfold fX0_growOlder
  rw [show (4 : Int32) = nI 4 from rfl, nI_mul, Nat.mul_comm r 4, xl_t, nI_add, show nI (4 * r + 4) - 1 = nI (4 * r + 3) from nI_pred (4 * r + 3), xr_n (by omega) (by decide), b3]
  obtain ⟨n5, xFU5⟩ := xFU5e
  rw [xFU5, show (3 : Int32) = nI (2 + 1) from rfl, x_go18 _ _ (by omega) _ _ (by omega), x_go18 _ _ (by omega) _ 1 (by omega), x_go18 _ _ (by omega) _ 0 (by omega), x_go18e _ _ (by omega)]
  simp (disch := omega) only [xu_at, upd_ne, b0, b1, b2]
  rfl
theorem X_endLoop {H : List sS} {s : sS} {tx : (Nat → Int32) × Nat} (hc : caps s) : ∀ (d i n : Nat) (σ : xSt), i + d = cR s → d < n → RX σ (H, edN s i, tx) → ∃ σ', fX11_endDay_c8 n (edA s i) (nI i) σ = some (edA s (cR s), σ') ∧ RX σ' (H, edN s (cR s), tx) := by
  have hcR := hc.1
  intro d
  induction d with
  | zero =>
    intro i n σ hi hn h
    obtain ⟨n, rfl⟩ : ∃ z, n = z + 1 := ⟨n - 1, by omega⟩
    obtain rfl : i = cR s := by omega
    obtain ⟨hc1, hcr⟩ := edN_caps hc (cR s) hcR
    have a1 : σ 4 7 = nI (cR s) := (X_at_nrec h).trans (hc1.2.2.2.2.2.1.trans (by rw [hcr]))
    rw [fX11_endDay_c8_s, a1, if_pos (nI_le (Nat.le_refl _) (by omega))]
    exact ⟨σ, rfl, h⟩
  | succ d ih =>
    intro i n σ hi hn h
    obtain ⟨n, rfl⟩ : ∃ z, n = z + 1 := ⟨n - 1, by omega⟩
    obtain ⟨hc1, hcr⟩ := edN_caps hc i (by omega)
    have a1 : σ 4 7 = nI (cR s) := (X_at_nrec h).trans (hc1.2.2.2.2.2.1.trans (by rw [hcr]))
    obtain ⟨σ1, e1, h1⟩ := X_growOlder h hc1 (r := i) (by omega)
    have c1 := (((hc1.upd (j := 223 + (4 * i + 3)) (by omega) (edN s i (223 + (4 * i + 2)))).upd (j := 223 + (4 * i + 2)) (by omega) (edN s i (223 + (4 * i + 1)))).upd (j := 223 + (4 * i + 1)) (by omega) (edN s i (223 + (4 * i + 0)))).upd (j := 223 + (4 * i + 0)) (by omega) 0
    have a2 : σ1 5 i = edN s i (19 + i) := by
      refine (X_at_piece h1 (k := i) ?_).trans ?_
      · simp (disch := omega) only [cR_ne]; omega
      · simp (disch := omega) only [upd_ne]
    have a3 : σ1 2 3 = edN s i 10 := by
      refine (X_at_gone h1).trans ?_
      simp (disch := omega) only [upd_ne]
    have h2 := X_set_gone h1 c1 (edN s i 10 + edN s i (223 + (4 * i + 3)) * edN s i (19 + i))
    have es : upd (upd (upd (upd (upd (edN s i) (223 + (4 * i + 3)) (edN s i (223 + (4 * i + 2)))) (223 + (4 * i + 2)) (edN s i (223 + (4 * i + 1)))) (223 + (4 * i + 1)) (edN s i (223 + (4 * i + 0)))) (223 + (4 * i + 0)) 0) 10 (edN s i 10 + edN s i (223 + (4 * i + 3)) * edN s i (19 + i)) = edN s (i + 1) := by
      show _ = edS (edN s i) i
      unfold edS
      rw [upd_swap _ (show 223 + (4 * i + 0) ≠ 10 by omega), upd_swap _ (show 223 + (4 * i + 1) ≠ 10 by omega), upd_swap _ (show 223 + (4 * i + 2) ≠ 10 by omega), upd_swap _ (show 223 + (4 * i + 3) ≠ 10 by omega)]
    rw [es] at h2
    obtain ⟨σ', e2, h3⟩ := ih (i + 1) n _ (by omega) (by omega) h2
    refine ⟨σ', ?_, h3⟩
    rw [fX11_endDay_c8_s, a1, if_neg (nI_ge (by omega) (by omega)), e1, xc2_t, xl_t, xr_n (by omega) (by decide), a2, xp_t, a3, xl_t, nI_1]
    exact e2
theorem X_endDay {N : Nat} {σ : xSt} {H : List sS} {s : sS} {tx : (Nat → Int32) × Nat} (h : RX σ (H, s, tx)) (hI : Inv N s) : XRi (fX11_endDay σ) (edA s (cR s), (kp H s, edN s (cR s), tx)) := by
  have hc := hI.caps
  unfold fX11_endDay
  obtain ⟨σ1, e1, h1, -⟩ := X_remember h
  rw [e1, xc_t]
  exact X_endLoop hc (cR s) 0 xFU σ1 (by omega) (by have := hc.1; show cR s < 8192; omega) h1