/-! ===== MORE CALLS ===== -/
theorem kp_cle {H : List sS} {s : sS} (h : ∀ x ∈ H, cle x s) : ∀ x ∈ kp H s, cle x s := by
  have hs : cle s s := ⟨Nat.le_refl _, Nat.le_refl _, Nat.le_refl _, fun _ _ => Nat.le_refl _⟩
  intro x hx
  unfold kp at hx
  split at hx
  · rcases List.mem_append.mp hx with h1 | h1
    · exact h x h1
    · rw [List.mem_singleton] at h1; rw [h1]; exact hs
  · rcases List.mem_append.mp hx with h1 | h1
    · exact h x (List.mem_of_mem_tail h1)
    · rw [List.mem_singleton] at h1; rw [h1]; exact hs
theorem M_at2 {σ : xSt} {H : List sS} {s : sS} {tx : (Nat → Int32) × Nat} (h : RM σ (H, s, tx)) {k : Nat} (hk : k < 660) : σ 1 k = s k := h.1 k hk
def sp_setWait (p0 : Int32) (p1 : Int32) (a : xA) : xO × xA := if 0 ≤ p0 ∧ p0 ≤ a.2.1 5 - 1 then (if 0 ≤ p1 ∧ p1 ≤ 99 then (.inl (a.2.1 (49 + p0.toNatClampNeg)), (kp a.1 a.2.1, upd a.2.1 (49 + p0.toNatClampNeg) p1, a.2.2)) else (.inr 1, a)) else (.inr 0, a)
theorem X_setWait {σ : xSt} {H : List sS} {s : sS} {tx : (Nat → Int32) × Nat} (h : RX σ (H, s, tx)) (hc : caps s)  (p0 : Int32) (p1 : Int32) : XR (fX11_setWait p0 p1 σ) (sp_setWait p0 p1 (H, s, tx)) := by
  unfold fX11_setWait sp_setWait
  rw [X_needRecipe h]
  show XR (xct (if 0 ≤ p0 ∧ p0 ≤ s 5 - 1 then _ else _) _) (if 0 ≤ p0 ∧ p0 ≤ s 5 - 1 then _ else _)
  obtain ⟨hcR, hcD, hcS, hcN, hrec, hE5, hE6, hE7, hE9⟩ := id hc
  by_cases g1 : 0 ≤ p0 ∧ p0 ≤ s 5 - 1
  · rw [if_pos g1, if_pos g1, xct_l, X_isWithin, xc2_t]
    obtain ⟨r, hr, rfl⟩ := x_cnt hE5 (by omega) g1
    have hr : r < cR s := hr
    by_cases g2 : 0 ≤ p1 ∧ p1 ≤ 99
    · rw [if_pos g2, if_pos g2, X_needArgument1, xct_l, nI_clamp (by omega)]
      obtain ⟨σ1, e1, h1, f1⟩ := X_remember h
      have a1 : σ1 10 r = s (49 + r) := (X_at_wait h1 (by omega)).trans (if_pos hr)
      rw [e1, xc_t, xr_n (by omega) (by decide), xs_n (by omega) (by decide), a1]
      exact ⟨_, rfl, X_set_wait h1 hc hr p1⟩
    · rw [if_neg g2, if_neg g2, X_needArgument0, xct_r]
      exact ⟨σ, rfl, h⟩
  · rw [if_neg g1, if_neg g1, xct_r]
    exact ⟨σ, rfl, h⟩
def sp_setPart (p0 : Int32) (p1 : Int32) (p2 : Int32) (a : xA) : xO × xA := if 0 ≤ p0 ∧ p0 ≤ a.2.1 5 - 1 then (if 0 ≤ p1 ∧ p1 ≤ 7 then (if 0 ≤ p2 ∧ p2 ≤ 9999 then (.inl (a.2.1 (55 + (8 * p0.toNatClampNeg + p1.toNatClampNeg))), (kp a.1 a.2.1, upd a.2.1 (55 + (8 * p0.toNatClampNeg + p1.toNatClampNeg)) p2, a.2.2)) else (.inr 1, a)) else (.inr 0, a)) else (.inr 0, a)
def sp_breads (p0 : Int32) (p1 : Int32) (a : xA) : xO × xA := if 0 ≤ p0 ∧ p0 ≤ a.2.1 5 - 1 then (if 0 ≤ p1 ∧ p1 ≤ 3 then (.inl (a.2.1 (223 + (4 * p0.toNatClampNeg + p1.toNatClampNeg))), a) else (.inr 1, a)) else (.inr 0, a)
theorem X_breads {σ : xSt} {H : List sS} {s : sS} {tx : (Nat → Int32) × Nat} (h : RX σ (H, s, tx)) (hc : caps s)  (p0 : Int32) (p1 : Int32) : XR (fX11_breads p0 p1 σ) (sp_breads p0 p1 (H, s, tx)) := by
  unfold fX11_breads sp_breads
  rw [X_needRecipe h]
  show XR (xct (if 0 ≤ p0 ∧ p0 ≤ s 5 - 1 then _ else _) _) (if 0 ≤ p0 ∧ p0 ≤ s 5 - 1 then _ else _)
  obtain ⟨hcR, hcD, hcS, hcN, hrec, hE5, hE6, hE7, hE9⟩ := id hc
  by_cases g1 : 0 ≤ p0 ∧ p0 ≤ s 5 - 1
  · rw [if_pos g1, if_pos g1, xct_l, X_isWithin, xc2_t]
    obtain ⟨r, hr, rfl⟩ := x_cnt hE5 (by omega) g1
    by_cases g2 : 0 ≤ p1 ∧ p1 ≤ 3
    · rw [if_pos g2, if_pos g2, X_needArgument1, xct_l]
      obtain ⟨k, -, hk, rfl⟩ := x_rng (a := 0) (b := 3) rfl (by decide) (by decide) (by decide) g2
      have a1 : σ 28 (4 * r + k) = s (223 + (4 * r + k)) := X_at_breads h (by omega)
      rw [show (4 : Int32) = nI 4 from rfl, nI_mul, nI_add, Nat.mul_comm r 4, xr_n (by omega) (by decide), a1, nI_clamp (by omega), nI_clamp (by omega)]
      exact ⟨σ, rfl, h⟩
    · rw [if_neg g2, if_neg g2, X_needArgument0, xct_r]
      exact ⟨σ, rfl, h⟩
  · rw [if_neg g1, if_neg g1, xct_r]
    exact ⟨σ, rfl, h⟩
def sp_setFlour (p0 : Int32) (p1 : Int32) (p2 : Int32) (p3 : Int32) (a : xA) : xO × xA := if 0 ≤ p0 ∧ p0 ≤ 3 then (if 0 ≤ p1 ∧ p1 ≤ 200 then (if 0 ≤ p2 ∧ p2 ≤ 999 then (if 0 ≤ p3 ∧ p3 ≤ 100 then ((.inl (a.2.1 (251 + p0.toNatClampNeg)), (kp a.1 a.2.1, upd (upd (upd a.2.1 (247 + p0.toNatClampNeg) p1) (251 + p0.toNatClampNeg) p2) (255 + p0.toNatClampNeg) p3, a.2.2))) else (.inr 1, a)) else (.inr 1, a)) else (.inr 1, a)) else (.inr 0, a)
theorem X_setFlour {σ : xSt} {H : List sS} {s : sS} {tx : (Nat → Int32) × Nat} (h : RX σ (H, s, tx)) (hc : caps s)  (p0 : Int32) (p1 : Int32) (p2 : Int32) (p3 : Int32) : XR (fX11_setFlour p0 p1 p2 p3 σ) (sp_setFlour p0 p1 p2 p3 (H, s, tx)) := by
  unfold fX11_setFlour sp_setFlour
  rw [X_isWithin, xc2_t]
  by_cases g1 : 0 ≤ p0 ∧ p0 ≤ 3
  · rw [if_pos g1, if_pos g1, X_needIndex1, xct_l]
    obtain ⟨k, -, hk, rfl⟩ := x_rng (a := 0) (b := 3) rfl (by decide) (by decide) (by decide) g1
    rw [X_isWithin, xc2_t]
    by_cases k0 : 0 ≤ p1 ∧ p1 ≤ 200
    · rw [if_pos k0, if_pos k0, if_neg (by decide)]
      rw [X_isWithin, xc2_t]
      by_cases k1 : 0 ≤ p2 ∧ p2 ≤ 999
      · rw [if_pos k1, if_pos k1, if_neg (by decide)]
        rw [X_isWithin, xc2_t]
        by_cases k2 : 0 ≤ p3 ∧ p3 ≤ 100
        · rw [if_pos k2, if_pos k2, if_neg (by decide)]
          unfold fX11_setFlour_c47
          obtain ⟨σ1, e1, h1, f1⟩ := X_remember h
          have h2 := X_set_strength h1 hc (show k < 4 by omega) p1
          have c2 : caps (upd s (247 + k) p1) := hc.upd (by omega) _
          have h3 := X_set_cost h2 c2 (show k < 4 by omega) p2
          have c3 : caps (upd (upd s (247 + k) p1) (251 + k) p2) := c2.upd (by omega) _
          have h4 := X_set_cap h3 c3 (show k < 4 by omega) p3
          have a1 : σ1 31 k = s (251 + k) := X_at_cost h1 (by omega)
          rw [X_needArgument1, xct_l, e1, xc_t, nI_clamp (by omega), xr_n (by omega) (by decide), a1, xs_n (by omega) (by decide), xs_n (by omega) (by decide), xs_n (by omega) (by decide)]
          exact ⟨_, rfl, h4⟩
        · rw [if_neg k2, if_neg k2, if_pos rfl]
          exact ⟨σ, rfl, h⟩
      · rw [if_neg k1, if_neg k1, if_pos rfl]
        exact ⟨σ, rfl, h⟩
    · rw [if_neg k0, if_neg k0, if_pos rfl]
      exact ⟨σ, rfl, h⟩
  · rw [if_neg g1, if_neg g1, X_needIndex0, xct_r]
    exact ⟨σ, rfl, h⟩
def sp_addRecipe (p0 : Int32) (p1 : Int32) (p2 : Int32) (p3 : Int32) (p4 : Int32) (a : xA) : xO × xA := if 50 ≤ p0 ∧ p0 ≤ 2000 then (if 1 ≤ p1 ∧ p1 ≤ 200 then (if p1 ≤ p2 ∧ p2 ≤ 200 then (if 100 ≤ p3 ∧ p3 ≤ 300 then (if 0 ≤ p4 ∧ p4 ≤ 15 then (if 6 ≤ a.2.1 5 then (.inr 2, a) else (.inl (a.2.1 5), (kp a.1 a.2.1, upd (upd (upd (upd (upd (upd (upd a.2.1 5 (nI (cR a.2.1 + 1))) (19 + cR a.2.1) p0) (25 + cR a.2.1) p1) (31 + cR a.2.1) p2) (37 + cR a.2.1) p3) (43 + cR a.2.1) p4) (49 + cR a.2.1) 20, a.2.2))) else (.inr 1, a)) else (.inr 1, a)) else (.inr 1, a)) else (.inr 1, a)) else (.inr 1, a)
theorem X_addRecipe {σ : xSt} {H : List sS} {s : sS} {tx : (Nat → Int32) × Nat} (h : RX σ (H, s, tx)) (hc : caps s) (hH : ∀ x ∈ H, cle x s) (p0 : Int32) (p1 : Int32) (p2 : Int32) (p3 : Int32) (p4 : Int32) : XR (fX11_addRecipe p0 p1 p2 p3 p4 σ) (sp_addRecipe p0 p1 p2 p3 p4 (H, s, tx)) := by
  unfold fX11_addRecipe sp_addRecipe
  obtain ⟨hcR, hcD, hcS, hcN, hrec, hE5, hE6, hE7, hE9⟩ := id hc
  rw [X_isWithin, xc2_t]
  by_cases k0 : 50 ≤ p0 ∧ p0 ≤ 2000
  · rw [if_pos k0, if_pos k0, if_neg (by decide)]
    rw [X_isWithin, xc2_t]
    by_cases k1 : 1 ≤ p1 ∧ p1 ≤ 200
    · rw [if_pos k1, if_pos k1, if_neg (by decide)]
      rw [X_isWithin, xc2_t]
      by_cases k2 : p1 ≤ p2 ∧ p2 ≤ 200
      · rw [if_pos k2, if_pos k2, if_neg (by decide)]
        rw [X_isWithin, xc2_t]
        by_cases k3 : 100 ≤ p3 ∧ p3 ≤ 300
        · rw [if_pos k3, if_pos k3, if_neg (by decide)]
          rw [X_isWithin, xc2_t]
          by_cases k4 : 0 ≤ p4 ∧ p4 ≤ 15
          · rw [if_pos k4, if_pos k4, if_neg (by decide)]
            unfold fX11_addRecipe_c63
            rw [X_needArgument1, xct_l, X_at_nrec h]
            show XR (if 6 ≤ s 5 then _ else _) (if 6 ≤ s 5 then _ else _)
            by_cases g4 : (6 : Int32) ≤ s 5
            · rw [if_pos g4, if_pos g4]
              exact ⟨σ, rfl, h⟩
            · rw [if_neg g4, if_neg g4]
              have hlt : cR s < 6 := by
                rw [hE5, show (6 : Int32) = nI 6 from rfl, nI_leI (by decide) (by omega)] at g4; omega
              unfold fX11_addRecipe_c83
              obtain ⟨σ1, e1, h1, f1⟩ := X_remember h
              have a1 : σ1 4 7 = nI (cR s) := (X_at_nrec h1).trans hE5
              rw [X_needState1, xct_l, e1, xc_t, xl_t, a1, xs_n (by omega) (by decide), xs_n (by omega) (by decide), xs_n (by omega) (by decide), xs_n (by omega) (by decide), xs_n (by omega) (by decide), xp_t]
              have a2 : xu (xu (xu (xu (xu σ1 5 (cR s) p0) 6 (cR s) p1) 7 (cR s) p2) 8 (cR s) p3) 9 (cR s) p4 4 7 = nI (cR s) := by simp (disch := omega) only [xu_ne]; exact a1
              rw [a2, nI_1]
              exact ⟨_, by show some ((Sum.inl _ : xO), _) = some ((Sum.inl (s 5) : xO), _); rw [hE5], X_push_recipe h1 hc hlt (kp_cle hH) p0 p1 p2 p3 p4⟩
          · rw [if_neg k4, if_neg k4, if_pos rfl]
            exact ⟨σ, rfl, h⟩
        · rw [if_neg k3, if_neg k3, if_pos rfl]
          exact ⟨σ, rfl, h⟩
      · rw [if_neg k2, if_neg k2, if_pos rfl]
        exact ⟨σ, rfl, h⟩
    · rw [if_neg k1, if_neg k1, if_pos rfl]
      exact ⟨σ, rfl, h⟩
  · rw [if_neg k0, if_neg k0, if_pos rfl]
    exact ⟨σ, rfl, h⟩

def sp_addShop (p0 : Int32) (p1 : Int32) (p2 : Int32) (p3 : Int32) (p4 : Int32) (a : xA) : xO × xA := if 0 ≤ p0 ∧ p0 ≤ 20 then (if 0 ≤ p1 ∧ p1 ≤ 20 then (if 0 ≤ p2 ∧ p2 ≤ 600 then (if p2 ≤ p3 ∧ p3 ≤ 600 then (if 0 ≤ p4 ∧ p4 ≤ 30 then (if 7 ≤ a.2.1 7 then (.inr 2, a) else (.inl (a.2.1 7), (kp a.1 a.2.1, upd (upd (upd (upd (upd (upd a.2.1 7 (nI (cS a.2.1 + 1))) (625 + cS a.2.1) p0) (632 + cS a.2.1) p1) (639 + cS a.2.1) p2) (646 + cS a.2.1) p3) (653 + cS a.2.1) p4, a.2.2))) else (.inr 1, a)) else (.inr 1, a)) else (.inr 1, a)) else (.inr 1, a)) else (.inr 1, a)
theorem X_addShop {σ : xSt} {H : List sS} {s : sS} {tx : (Nat → Int32) × Nat} (h : RX σ (H, s, tx)) (hc : caps s) (hH : ∀ x ∈ H, cle x s) (p0 : Int32) (p1 : Int32) (p2 : Int32) (p3 : Int32) (p4 : Int32) : XR (fX11_addShop p0 p1 p2 p3 p4 σ) (sp_addShop p0 p1 p2 p3 p4 (H, s, tx)) := by
  unfold fX11_addShop sp_addShop
  obtain ⟨hcR, hcD, hcS, hcN, hrec, hE5, hE6, hE7, hE9⟩ := id hc
  rw [X_isWithin, xc2_t]
  by_cases k0 : 0 ≤ p0 ∧ p0 ≤ 20
  · rw [if_pos k0, if_pos k0, if_neg (by decide)]
    rw [X_isWithin, xc2_t]
    by_cases k1 : 0 ≤ p1 ∧ p1 ≤ 20
    · rw [if_pos k1, if_pos k1, if_neg (by decide)]
      rw [X_isWithin, xc2_t]
      by_cases k2 : 0 ≤ p2 ∧ p2 ≤ 600
      · rw [if_pos k2, if_pos k2, if_neg (by decide)]
        rw [X_isWithin, xc2_t]
        by_cases k3 : p2 ≤ p3 ∧ p3 ≤ 600
        · rw [if_pos k3, if_pos k3, if_neg (by decide)]
          rw [X_isWithin, xc2_t]
          by_cases k4 : 0 ≤ p4 ∧ p4 ≤ 30
          · rw [if_pos k4, if_pos k4, if_neg (by decide)]
            unfold fX11_addShop_c59
            rw [X_needArgument1, xct_l, X_at_nshop h]
            show XR (if 7 ≤ s 7 then _ else _) (if 7 ≤ s 7 then _ else _)
            by_cases g4 : (7 : Int32) ≤ s 7
            · rw [if_pos g4, if_pos g4]
              exact ⟨σ, rfl, h⟩
            · rw [if_neg g4, if_neg g4]
              have hlt : cS s < 7 := by
                rw [hE7, show (7 : Int32) = nI 7 from rfl, nI_leI (by decide) (by omega)] at g4; omega
              unfold fX11_addShop_c79
              obtain ⟨σ1, e1, h1, f1⟩ := X_remember h
              have a1 : σ1 38 5 = nI (cS s) := (X_at_nshop h1).trans hE7
              rw [X_needState1, xct_l, e1, xc_t, xl_t, a1, xs_n (by omega) (by decide), xs_n (by omega) (by decide), xs_n (by omega) (by decide), xs_n (by omega) (by decide), xs_n (by omega) (by decide), xp_t]
              have a2 : xu (xu (xu (xu (xu σ1 39 (cS s) p0) 40 (cS s) p1) 41 (cS s) p2) 42 (cS s) p3) 43 (cS s) p4 38 5 = nI (cS s) := by simp (disch := omega) only [xu_ne]; exact a1
              rw [a2, nI_1]
              exact ⟨_, by show some ((Sum.inl _ : xO), _) = some ((Sum.inl (s 7) : xO), _); rw [hE7], X_push_shop h1 hc hlt (kp_cle hH) p0 p1 p2 p3 p4⟩
          · rw [if_neg k4, if_neg k4, if_pos rfl]
            exact ⟨σ, rfl, h⟩
        · rw [if_neg k3, if_neg k3, if_pos rfl]
          exact ⟨σ, rfl, h⟩
      · rw [if_neg k2, if_neg k2, if_pos rfl]
        exact ⟨σ, rfl, h⟩
    · rw [if_neg k1, if_neg k1, if_pos rfl]
      exact ⟨σ, rfl, h⟩
  · rw [if_neg k0, if_neg k0, if_pos rfl]
    exact ⟨σ, rfl, h⟩

def sp_note (p0 : Int32) (p1 : Int32) (a : xA) : xO × xA := if 0 ≤ p0 ∧ p0 ≤ a.2.1 5 - 1 then (if 0 ≤ p1 ∧ p1 ≤ 99 then (if 60 ≤ a.2.1 (259 + p0.toNatClampNeg) then (.inr 2, a) else (.inl (nI (cN a.2.1 p0.toNatClampNeg + 1)), (kp a.1 a.2.1, upd (upd a.2.1 (265 + (60 * p0.toNatClampNeg + cN a.2.1 p0.toNatClampNeg)) p1) (259 + p0.toNatClampNeg) (nI (cN a.2.1 p0.toNatClampNeg + 1)), a.2.2))) else (.inr 1, a)) else (.inr 0, a)
theorem X_note {σ : xSt} {H : List sS} {s : sS} {tx : (Nat → Int32) × Nat} (h : RX σ (H, s, tx)) (hc : caps s) (hH : ∀ x ∈ H, cle x s) (p0 : Int32) (p1 : Int32) : XR (fX11_note p0 p1 σ) (sp_note p0 p1 (H, s, tx)) := by
  unfold fX11_note sp_note
  rw [X_needRecipe h]
  show XR (xct (if 0 ≤ p0 ∧ p0 ≤ s 5 - 1 then _ else _) _) (if 0 ≤ p0 ∧ p0 ≤ s 5 - 1 then _ else _)
  obtain ⟨hcR, hcD, hcS, hcN, hrec, hE5, hE6, hE7, hE9⟩ := id hc
  by_cases g1 : 0 ≤ p0 ∧ p0 ≤ s 5 - 1
  · rw [if_pos g1, if_pos g1, xct_l, X_isWithin, xc2_t]
    obtain ⟨r, hr, rfl⟩ := x_cnt hE5 (by omega) g1
    have hr : r < cR s := hr
    by_cases g2 : 0 ≤ p1 ∧ p1 ≤ 99
    · rw [if_pos g2, if_pos g2, X_needArgument1, xct_l, nI_clamp (by omega), xr_n (by omega) (by decide), X_at_ncount h (by omega)]
      show XR (if 60 ≤ s (259 + r) then _ else _) (if 60 ≤ s (259 + r) then _ else _)
      by_cases g3 : (60 : Int32) ≤ s (259 + r)
      · rw [if_pos g3, if_pos g3]
        exact ⟨σ, rfl, h⟩
      · rw [if_neg g3, if_neg g3]
        have hb := hcN r (by omega)
        have hlt : cN s r < 60 := by
          rw [hE9 r (by omega), show (60 : Int32) = nI 60 from rfl, nI_leI (by decide) (by omega)] at g3; omega
        unfold fX11_note_c34
        obtain ⟨σ1, e1, h1, f1⟩ := X_remember h
        have a1 : σ1 37 r = nI (cN s r) := (X_at_ncount h1 (by omega)).trans (hE9 r (by omega))
        have a2 : xu σ1 36 (60 * r + cN s r) p1 37 r = nI (cN s r) := by rw [xu_ne _ _ _ (by decide)]; exact a1
        rw [X_needState1, xct_l, e1, xc_t, xr_n (by omega) (by decide), a1, show (60 : Int32) = nI 60 from rfl, nI_mul, nI_add, Nat.mul_comm r 60, xs_n (by omega) (by decide), xr_n (by omega) (by decide), a2, nI_1, xs_n (by omega) (by decide), xr_n (by omega) (by decide)]
        exact ⟨_, by rw [xu_at, upd_at], X_push_note h1 hc (by omega) hlt (kp_cle hH) p1⟩
    · rw [if_neg g2, if_neg g2, X_needArgument0, xct_r]
      exact ⟨σ, rfl, h⟩
  · rw [if_neg g1, if_neg g1, xct_r]
    exact ⟨σ, rfl, h⟩