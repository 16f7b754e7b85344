/-! ===== WHAT HOLDS OF EVERY STATE; DOUGHS ===== -/
def sumI (f : Nat → Int) : Nat → Int
  | 0 => 0
  | n + 1 => sumI f n + f n
/-- a number within bounds -/
def bt (x : Int32) (a b : Int) : Prop := a ≤ x.toInt ∧ x.toInt ≤ b
def dgr (s : sS) (k : Nat) : Int := (s (123 + k)).toInt * (s (19 + (s (103 + k)).toNatClampNeg)).toInt
def inDg (s : sS) (k : Nat) : Int := if s (163 + k) = 0 ∨ s (163 + k) = 1 ∨ s (163 + k) = 2 then dgr s k else 0
def led (s : sS) : Int := (s 9).toInt + (s 10).toInt + sumI (fun k => (s (11 + k)).toInt) 8 + sumI (inDg s) (cD s) + sumI (fun k => (s (223 + k)).toInt * (s (19 + k / 4)).toInt) (4 * cR s)
def iOven (s : sS) : Prop := bt (s 0) 0 100000 ∧ bt (s 1) 0 5 ∧ bt (s 2) 20 320 ∧ bt (s 3) 20 320 ∧ bt (s 4) 1 4
def iRec (s : sS) : Prop := (∀ k, k < cR s → bt (s (19 + k)) 50 2000 ∧ bt (s (25 + k)) 1 200 ∧ bt (s (31 + k)) (s (25 + k)).toInt 200 ∧ bt (s (37 + k)) 100 300 ∧ bt (s (43 + k)) 0 15 ∧ bt (s (49 + k)) 0 99) ∧ ∀ k, k < 48 → bt (s (55 + k)) 0 9999
def iDough (s : sS) : Prop := ∀ k, k < cD s → s (103 + k) = nI (s (103 + k)).toNatClampNeg ∧ bt (s (123 + k)) 1 40 ∧ bt (s (163 + k)) 0 4 ∧ (bt (s (183 + k)) (-1) (s 0).toInt ∧ bt (s (143 + k)) 0 (6 * (s 0).toInt)) ∧ bt (s (203 + k)) (-1) (s 0).toInt ∧ (s (163 + k) = 2 → 0 ≤ (s (203 + k)).toInt ∧ (s 0).toInt < (s (203 + k)).toInt + 10)
def iBread (s : sS) : Prop := ∀ k, k < 24 → 0 ≤ (s (223 + k)).toInt ∧ (4 * cR s ≤ k → s (223 + k) = 0)
def iFlour (s : sS) : Prop := ∀ k, k < 4 → bt (s (247 + k)) 0 200 ∧ bt (s (251 + k)) 0 999 ∧ bt (s (255 + k)) 0 100
def iNote (s : sS) : Prop := ∀ r, r < 6 → ∀ k, k < cN s r → bt (s (265 + (60 * r + k))) 0 99
def iShop (s : sS) : Prop := ∀ k, k < cS s → bt (s (625 + k)) 0 20 ∧ bt (s (632 + k)) 0 20 ∧ bt (s (639 + k)) 0 600 ∧ bt (s (646 + k)) (s (639 + k)).toInt 600 ∧ bt (s (653 + k)) 0 30
def iLed (N : Nat) (s : sS) : Prop := (s 8).toInt = led s ∧ 0 ≤ (s 9).toInt ∧ 0 ≤ (s 10).toInt ∧ (∀ k, k < 8 → 0 ≤ (s (11 + k)).toInt) ∧ (s 8).toInt ≤ 200000 * N
def Inv (N : Nat) (s : sS) : Prop := caps s ∧ iOven s ∧ iRec s ∧ iDough s ∧ iBread s ∧ iFlour s ∧ iNote s ∧ iShop s ∧ iLed N s
theorem Inv.caps {N : Nat} {s : sS} (h : Inv N s) : caps s := h.1
theorem Inv.oven {N : Nat} {s : sS} (h : Inv N s) : iOven s := h.2.1
theorem Inv.rec {N : Nat} {s : sS} (h : Inv N s) : iRec s := h.2.2.1
theorem Inv.dough {N : Nat} {s : sS} (h : Inv N s) : iDough s := h.2.2.2.1
theorem Inv.bread {N : Nat} {s : sS} (h : Inv N s) : iBread s := h.2.2.2.2.1
theorem Inv.flour {N : Nat} {s : sS} (h : Inv N s) : iFlour s := h.2.2.2.2.2.1
theorem Inv.note {N : Nat} {s : sS} (h : Inv N s) : iNote s := h.2.2.2.2.2.2.1
theorem Inv.shop {N : Nat} {s : sS} (h : Inv N s) : iShop s := h.2.2.2.2.2.2.2.1
theorem Inv.led {N : Nat} {s : sS} (h : Inv N s) : iLed N s := h.2.2.2.2.2.2.2.2
/-- a number that is not below 0 -/
theorem bt_nI {x : Int32} {a b : Int} (h : bt x a b) (ha : 0 ≤ a) : x = nI x.toNatClampNeg := by
  have e : x.toNatClampNeg = x.toInt.toNat := rfl
  have := h.1
  have := x.toInt_lt
  rw [fa_eq, nI_toInt (by omega)]
  omega
theorem bt_cl {x : Int32} {a b : Int} (h : bt x a b) (ha : 0 ≤ a) : a ≤ x.toNatClampNeg ∧ (x.toNatClampNeg : Int) ≤ b := by
  have e : x.toNatClampNeg = x.toInt.toNat := rfl
  have := h.1
  have := h.2
  omega
/-- the recipe of a dough -/
def drc (s : sS) (k : Nat) : Nat := (s (103 + k)).toNatClampNeg
theorem drc_lt {s : sS} (hc : caps s) {k : Nat} (hk : k < cD s) : drc s k < cR s := hc.2.2.2.2.1 k hk
theorem drc_eq {N : Nat} {s : sS} (hI : Inv N s) {k : Nat} (hk : k < cD s) : s (103 + k) = nI (drc s k) := (hI.dough k hk).1
def ripe (s : sS) (k : Nat) : Prop := s (25 + drc s k) ≤ s (143 + k) ∧ s (143 + k) ≤ s (31 + drc s k)
theorem X_isRipeWith {N : Nat} {σ : xSt} {H : List sS} {s : sS} {tx : (Nat → Int32) × Nat} (h : RX σ (H, s, tx)) (hI : Inv N s) {r : Nat} (hr : r < cR s) (p : Int32) : fX8_isRipeWith (nI r) p σ = some (if s (25 + r) ≤ p ∧ p ≤ s (31 + r) then 1 else 0, σ) := by
  have hc := hI.caps.1
  unfold fX8_isRipeWith
  have a1 : σ 6 r = s (25 + r) := X_at_low h hr
  have a2 : σ 7 r = s (31 + r) := X_at_high h hr
  rw [xr_n (by omega) (by decide), xr_n (by omega) (by decide), a1, a2, X_isWithin, xc2_t, xb_t x10b]
theorem X_isRipe {N : Nat} {σ : xSt} {H : List sS} {s : sS} {tx : (Nat → Int32) × Nat} (h : RX σ (H, s, tx)) (hI : Inv N s) {k : Nat} (hk : k < cD s) : fX11_isRipe (nI k) σ = some (if s (163 + k) = 0 ∧ (s (25 + drc s k) ≤ s (143 + k) ∧ s (143 + k) ≤ s (31 + drc s k)) then 1 else 0, σ) := by
  have hc2 := hI.caps.2.1
  have hr := drc_lt hI.caps hk
  have a1 : σ 17 k = s (163 + k) := X_at_state h (by omega)
  have a2 : σ 13 k = nI (drc s k) := (X_at_drec h hk).trans (drc_eq hI hk)
  have a3 : σ 16 k = s (143 + k) := X_at_points h (by omega)
  unfold fX11_isRipe
  rw [xr_n (by omega) (by decide), a1]
  by_cases g1 : s (163 + k) = 0
  · rw [if_pos g1, xr_n (by omega) (by decide), xr_n (by omega) (by decide), a2, a3, X_isRipeWith h hI hr, xc2_t]
    by_cases g2 : s (25 + drc s k) ≤ s (143 + k) ∧ s (143 + k) ≤ s (31 + drc s k)
    · rw [if_pos g2, if_neg (by decide), if_pos ⟨g1, g2⟩]
    · rw [if_neg g2, if_pos rfl, if_neg (fun h9 => g2 h9.2)]
  · rw [if_neg g1, if_neg (fun h9 => g1 h9.1)]
def sp_shape (p0 : Int32) (a : xA) : xO × xA := if 0 ≤ p0 ∧ p0 ≤ a.2.1 6 - 1 then (if a.2.1 (163 + p0.toNatClampNeg) = 0 ∧ (a.2.1 (25 + drc a.2.1 p0.toNatClampNeg) ≤ a.2.1 (143 + p0.toNatClampNeg) ∧ a.2.1 (143 + p0.toNatClampNeg) ≤ a.2.1 (31 + drc a.2.1 p0.toNatClampNeg)) then (.inl (a.2.1 (143 + p0.toNatClampNeg)), (kp a.1 a.2.1, upd (upd a.2.1 (163 + p0.toNatClampNeg) 1) (183 + p0.toNatClampNeg) (a.2.1 0), a.2.2)) else (.inr 2, a)) else (.inr 0, a)
theorem X_shape {N : Nat} {σ : xSt} {H : List sS} {s : sS} {tx : (Nat → Int32) × Nat} (h : RX σ (H, s, tx)) (hI : Inv N s) (p0 : Int32) : XR (fX11_shape p0 σ) (sp_shape p0 (H, s, tx)) := by
  have hc := hI.caps
  obtain ⟨hcR, hcD, hcS, hcN, hrec, hE5, hE6, hE7, hE9⟩ := id hc
  unfold fX11_shape sp_shape
  rw [X_needDough h]
  show XR (xct (if 0 ≤ p0 ∧ p0 ≤ s 6 - 1 then _ else _) _) (if 0 ≤ p0 ∧ p0 ≤ s 6 - 1 then _ else _)
  by_cases g1 : 0 ≤ p0 ∧ p0 ≤ s 6 - 1
  · rw [if_pos g1, if_pos g1, xct_l]
    obtain ⟨k, hk, rfl⟩ := x_cnt hE6 (by omega) g1
    have hk : k < cD s := hk
    rw [X_isRipe h hI hk, xc2_t, nI_clamp (by omega)]
    show XR _ (if s (163 + k) = 0 ∧ (s (25 + drc s k) ≤ s (143 + k) ∧ s (143 + k) ≤ s (31 + drc s k)) then _ else _)
    by_cases g2 : s (163 + k) = 0 ∧ (s (25 + drc s k) ≤ s (143 + k) ∧ s (143 + k) ≤ s (31 + drc s k))
    · rw [if_pos g2, if_pos g2, X_needState1, xct_l]
      obtain ⟨σ1, e1, h1, f1⟩ := X_remember h
      have h2 := X_set_state h1 hc (show k < 20 by omega) 1
      have c2 : caps (upd s (163 + k) 1) := hc.upd (by omega) _
      have h3 := X_set_shaped h2 c2 (show k < 20 by omega) (s 0)
      have a1 : xu σ1 17 k 1 20 0 = s 0 := (X_at_tick h2).trans (upd_ne _ _ (by omega))
      have a2 : xu (xu σ1 17 k 1) 18 k (s 0) 16 k = s (143 + k) := by rw [xu_ne _ _ _ (by decide), xu_ne _ _ _ (by decide)]; exact X_at_points h1 (by omega)
      rw [e1, xc_t, xs_n (by omega) (by decide), a1, xs_n (by omega) (by decide), xr_n (by omega) (by decide), a2]
      exact ⟨_, rfl, h3⟩
    · rw [if_neg g2, if_neg g2, X_needState0, xct_r]
      exact ⟨σ, rfl, h⟩
  · rw [if_neg g1, if_neg g1, xct_r]
    exact ⟨σ, rfl, h⟩
def sp_throwAway (p0 : Int32) (a : xA) : xO × xA := if 0 ≤ p0 ∧ p0 ≤ a.2.1 6 - 1 then (if a.2.1 (163 + p0.toNatClampNeg) = 0 ∨ a.2.1 (163 + p0.toNatClampNeg) = 1 then (.inl (a.2.1 (123 + p0.toNatClampNeg) * a.2.1 (19 + drc a.2.1 p0.toNatClampNeg)), (kp a.1 a.2.1, upd (upd a.2.1 (163 + p0.toNatClampNeg) 4) 10 (a.2.1 10 + a.2.1 (123 + p0.toNatClampNeg) * a.2.1 (19 + drc a.2.1 p0.toNatClampNeg)), a.2.2)) else (.inr 2, a)) else (.inr 0, a)
def sp_doughAt (p0 : Int32) (p1 : Int32) (a : xA) : xO × xA := if 0 ≤ p0 ∧ p0 ≤ a.2.1 6 - 1 then (if 0 ≤ p1 ∧ p1 ≤ 6 then (.inl (if p1 = 0 then a.2.1 (103 + p0.toNatClampNeg) else if p1 = 1 then a.2.1 (123 + p0.toNatClampNeg) else if p1 = 2 then a.2.1 (143 + p0.toNatClampNeg) else if p1 = 3 then a.2.1 (163 + p0.toNatClampNeg) else if p1 = 4 then a.2.1 (123 + p0.toNatClampNeg) * a.2.1 (19 + drc a.2.1 p0.toNatClampNeg) else if p1 = 5 then a.2.1 (183 + p0.toNatClampNeg) else a.2.1 (203 + p0.toNatClampNeg)), a) else (.inr 1, a)) else (.inr 0, a)
theorem X_doughAt {N : Nat} {σ : xSt} {H : List sS} {s : sS} {tx : (Nat → Int32) × Nat} (h : RX σ (H, s, tx)) (hI : Inv N s) (p0 : Int32) (p1 : Int32) : XR (fX11_doughAt p0 p1 σ) (sp_doughAt p0 p1 (H, s, tx)) := by
  have hc := hI.caps
  obtain ⟨hcR, hcD, hcS, hcN, hrec, hE5, hE6, hE7, hE9⟩ := id hc
  unfold fX11_doughAt sp_doughAt
  rw [X_needDough h]
  show XR (xct (if 0 ≤ p0 ∧ p0 ≤ s 6 - 1 then _ else _) _) (if 0 ≤ p0 ∧ p0 ≤ s 6 - 1 then _ else _)
  by_cases g1 : 0 ≤ p0 ∧ p0 ≤ s 6 - 1
  · rw [if_pos g1, if_pos g1, xct_l, X_isWithin, xc2_t]
    obtain ⟨k, hk, rfl⟩ := x_cnt hE6 (by omega) g1
    have hk : k < cD s := hk
    by_cases g2 : 0 ≤ p1 ∧ p1 ≤ 6
    · rw [if_pos g2, if_pos g2, X_needArgument1, xct_l, nI_clamp (by omega)]
      refine ⟨σ, ?_, h⟩
      by_cases m0 : p1 = 0
      · rw [if_pos m0, if_pos m0, xr_n (by omega) (by decide), show σ 13 k = s (103 + k) from X_at_drec h hk]
      · rw [if_neg m0, if_neg m0]
        by_cases m1 : p1 = 1
        · rw [if_pos m1, if_pos m1, xr_n (by omega) (by decide), show σ 14 k = s (123 + k) from X_at_dpieces h hk]
        · rw [if_neg m1, if_neg m1]
          by_cases m2 : p1 = 2
          · rw [if_pos m2, if_pos m2, xr_n (by omega) (by decide), show σ 16 k = s (143 + k) from X_at_points h (by omega)]
          · rw [if_neg m2, if_neg m2]
            by_cases m3 : p1 = 3
            · rw [if_pos m3, if_pos m3, xr_n (by omega) (by decide), show σ 17 k = s (163 + k) from X_at_state h (by omega)]
            · rw [if_neg m3, if_neg m3]
              by_cases m4 : p1 = 4
              · rw [if_pos m4, if_pos m4, xr_n (by omega) (by decide), show σ 15 k = s (123 + k) * s (19 + drc s k) from X_at_dgrams h hk]
              · rw [if_neg m4, if_neg m4]
                by_cases m5 : p1 = 5
                · rw [if_pos m5, if_pos m5, xr_n (by omega) (by decide), show σ 18 k = s (183 + k) from X_at_shaped h (by omega)]
                · rw [if_neg m5, if_neg m5]
                  rw [xr_n (by omega) (by decide), show σ 19 k = s (203 + k) from X_at_went h (by omega)]
    · rw [if_neg g2, if_neg g2, X_needArgument0, xct_r]
      exact ⟨σ, rfl, h⟩
  · rw [if_neg g1, if_neg g1, xct_r]
    exact ⟨σ, rfl, h⟩