/-! ===== SIMPLE CALLS ===== -/
def XR (r : Option (xO × xSt)) (sp : xO × xA) : Prop := ∃ σ', r = some (sp.1, σ') ∧ RX σ' sp.2
def XRi (r : Option (Int32 × xSt)) (sp : Int32 × xA) : Prop := ∃ σ', r = some (sp.1, σ') ∧ RX σ' sp.2
def MR (r : Option (Int32 × xSt)) (c0 c1 c2 c3 : Int32) (sp : xO × xA) : Prop := ∃ b σ', r = some (b, σ') ∧ RM σ' sp.2 ∧ σ' 0 0 = xcd c0 c1 c2 c3 sp.1 ∧ ∀ v, sp.1 = .inl v → v = b
def MRi (r : Option (Int32 × xSt)) (sp : Int32 × xA) : Prop := ∃ σ', r = some (sp.1, σ') ∧ RM σ' sp.2
theorem X_isWithin (p0 p1 p2 : Int32) (σ : xSt) : fX11_isWithin p0 p1 p2 σ = some (if p1 ≤ p0 ∧ p0 ≤ p2 then 1 else 0, σ) := by
  unfold fX11_isWithin
  by_cases h1 : p0 < p1
  · rw [if_pos h1, if_neg]; rw [fa_lt] at h1; rw [fa_le]; omega
  · rw [if_neg h1]
    by_cases h2 : p2 < p0
    · rw [if_pos h2, if_neg]; rw [fa_lt] at h2; rw [fa_le p0 p2]; omega
    · rw [if_neg h2, if_pos]; rw [fa_lt] at h1 h2; rw [fa_le, fa_le]; omega
theorem X_needIndex1 (σ : xSt) : fX11_needIndex 1 σ = some (.inl 0, σ) := rfl
theorem X_needIndex0 (σ : xSt) : fX11_needIndex 0 σ = some (.inr 0, σ) := rfl
theorem X_needArgument1 (σ : xSt) : fX11_needArgument 1 σ = some (.inl 0, σ) := rfl
theorem X_needArgument0 (σ : xSt) : fX11_needArgument 0 σ = some (.inr 1, σ) := rfl
theorem X_needState1 (σ : xSt) : fX11_needState 1 σ = some (.inl 0, σ) := rfl
theorem X_needState0 (σ : xSt) : fX11_needState 0 σ = some (.inr 2, σ) := rfl
theorem X_needElement1 (σ : xSt) : fX11_needElement 1 σ = some (.inl 0, σ) := rfl
theorem X_needElement0 (σ : xSt) : fX11_needElement 0 σ = some (.inr 3, σ) := rfl
theorem x10 {c : Prop} [Decidable c] : ((if c then (1 : Int32) else 0) = 0) ↔ ¬ c := by
  by_cases h : c
  · rw [if_pos h]; exact ⟨fun h9 => absurd h9 (by decide), fun h9 => absurd h h9⟩
  · rw [if_neg h]; exact ⟨fun _ => h, fun _ => rfl⟩
theorem x10b {c : Prop} [Decidable c] : ((if c then (1 : Int32) else 0) = 0 ∨ (if c then (1 : Int32) else 0) = 1) := by
  by_cases h : c
  · rw [if_pos h]; exact Or.inr rfl
  · rw [if_neg h]; exact Or.inl rfl
/-- a number of a small range -/
theorem x_rng {p lo hi : Int32} {a b : Nat} (hlo : lo = nI a) (hhi : hi.toInt ≤ b) (hb : b < 2147483648) (ha : a < 2147483648) (h : lo ≤ p ∧ p ≤ hi) : ∃ k, a ≤ k ∧ k ≤ b ∧ p = nI k := by
  subst hlo
  rw [fa_le, fa_le, nI_toInt (by omega)] at h
  refine ⟨p.toInt.toNat, by omega, by omega, ?_⟩
  rw [fa_eq, nI_toInt (by omega)]
  omega
theorem X_at_grams {σ : xSt} {a : xA} (h : RX σ a) {k : Nat} (hk : k < 8) : σ 3 k = a.2.1 (11 + k) := h.1.1 k hk
theorem X_at_came {σ : xSt} {a : xA} (h : RX σ a) : σ 2 1 = a.2.1 8 := h.1.2.1
theorem X_at_sold {σ : xSt} {a : xA} (h : RX σ a) : σ 2 2 = a.2.1 9 := h.1.2.2.1
theorem X_at_gone {σ : xSt} {a : xA} (h : RX σ a) : σ 2 3 = a.2.1 10 := h.1.2.2.2.1
theorem X_at_nrec {σ : xSt} {a : xA} (h : RX σ a) : σ 4 7 = a.2.1 5 := h.1.2.2.2.2.1
theorem X_at_wait {σ : xSt} {a : xA} (h : RX σ a) {k : Nat} (hk : k < 6) : σ 10 k = if k < cR a.2.1 then a.2.1 (49 + k) else 20 := h.1.2.2.2.2.2.1 k hk
theorem X_at_parts {σ : xSt} {a : xA} (h : RX σ a) {k : Nat} (hk : k < 48) : σ 11 k = a.2.1 (55 + k) := h.1.2.2.2.2.2.2.1 k hk
theorem X_at_ndough {σ : xSt} {a : xA} (h : RX σ a) : σ 12 7 = a.2.1 6 := h.1.2.2.2.2.2.2.2.1
theorem X_at_points {σ : xSt} {a : xA} (h : RX σ a) {k : Nat} (hk : k < 20) : σ 16 k = a.2.1 (143 + k) := h.1.2.2.2.2.2.2.2.2.1 k hk
theorem X_at_state {σ : xSt} {a : xA} (h : RX σ a) {k : Nat} (hk : k < 20) : σ 17 k = a.2.1 (163 + k) := h.1.2.2.2.2.2.2.2.2.2.1 k hk
theorem X_at_shaped {σ : xSt} {a : xA} (h : RX σ a) {k : Nat} (hk : k < 20) : σ 18 k = a.2.1 (183 + k) := h.1.2.2.2.2.2.2.2.2.2.2.1 k hk
theorem X_at_went {σ : xSt} {a : xA} (h : RX σ a) {k : Nat} (hk : k < 20) : σ 19 k = a.2.1 (203 + k) := h.1.2.2.2.2.2.2.2.2.2.2.2.1 k hk
theorem X_at_tick {σ : xSt} {a : xA} (h : RX σ a) : σ 20 0 = a.2.1 0 := h.1.2.2.2.2.2.2.2.2.2.2.2.2.1
theorem X_at_warmth {σ : xSt} {a : xA} (h : RX σ a) : σ 20 1 = a.2.1 1 := h.1.2.2.2.2.2.2.2.2.2.2.2.2.2.1
theorem X_at_decks {σ : xSt} {a : xA} (h : RX σ a) : σ 20 2 = a.2.1 4 := h.1.2.2.2.2.2.2.2.2.2.2.2.2.2.2.1
theorem X_at_heat {σ : xSt} {a : xA} (h : RX σ a) : σ 20 3 = a.2.1 2 := h.1.2.2.2.2.2.2.2.2.2.2.2.2.2.2.2.1
theorem X_at_setHeat {σ : xSt} {a : xA} (h : RX σ a) : σ 20 4 = a.2.1 3 := h.1.2.2.2.2.2.2.2.2.2.2.2.2.2.2.2.2.1
theorem X_at_breads {σ : xSt} {a : xA} (h : RX σ a) {k : Nat} (hk : k < 24) : σ 28 k = a.2.1 (223 + k) := h.1.2.2.2.2.2.2.2.2.2.2.2.2.2.2.2.2.2.1 k hk
theorem X_at_strength {σ : xSt} {a : xA} (h : RX σ a) {k : Nat} (hk : k < 4) : σ 30 k = a.2.1 (247 + k) := h.1.2.2.2.2.2.2.2.2.2.2.2.2.2.2.2.2.2.2.1 k hk
theorem X_at_cost {σ : xSt} {a : xA} (h : RX σ a) {k : Nat} (hk : k < 4) : σ 31 k = a.2.1 (251 + k) := h.1.2.2.2.2.2.2.2.2.2.2.2.2.2.2.2.2.2.2.2.1 k hk
theorem X_at_cap {σ : xSt} {a : xA} (h : RX σ a) {k : Nat} (hk : k < 4) : σ 32 k = a.2.1 (255 + k) := h.1.2.2.2.2.2.2.2.2.2.2.2.2.2.2.2.2.2.2.2.2.1 k hk
theorem X_at_ncount {σ : xSt} {a : xA} (h : RX σ a) {k : Nat} (hk : k < 6) : σ 37 k = a.2.1 (259 + k) := h.1.2.2.2.2.2.2.2.2.2.2.2.2.2.2.2.2.2.2.2.2.2.1 k hk
theorem X_at_nshop {σ : xSt} {a : xA} (h : RX σ a) : σ 38 5 = a.2.1 7 := h.1.2.2.2.2.2.2.2.2.2.2.2.2.2.2.2.2.2.2.2.2.2.2
theorem X_at_piece {σ : xSt} {a : xA} (h : RX σ a) {k : Nat} (hk : k < cR a.2.1) : σ 5 k = a.2.1 (19 + k) := h.2.1.1 k hk
theorem X_at_low {σ : xSt} {a : xA} (h : RX σ a) {k : Nat} (hk : k < cR a.2.1) : σ 6 k = a.2.1 (25 + k) := h.2.1.2.1 k hk
theorem X_at_high {σ : xSt} {a : xA} (h : RX σ a) {k : Nat} (hk : k < cR a.2.1) : σ 7 k = a.2.1 (31 + k) := h.2.1.2.2.1 k hk
theorem X_at_iheat {σ : xSt} {a : xA} (h : RX σ a) {k : Nat} (hk : k < cR a.2.1) : σ 8 k = a.2.1 (37 + k) := h.2.1.2.2.2.1 k hk
theorem X_at_allerg {σ : xSt} {a : xA} (h : RX σ a) {k : Nat} (hk : k < cR a.2.1) : σ 9 k = a.2.1 (43 + k) := h.2.1.2.2.2.2.1 k hk
theorem X_at_drec {σ : xSt} {a : xA} (h : RX σ a) {k : Nat} (hk : k < cD a.2.1) : σ 13 k = a.2.1 (103 + k) := h.2.1.2.2.2.2.2.1 k hk
theorem X_at_dpieces {σ : xSt} {a : xA} (h : RX σ a) {k : Nat} (hk : k < cD a.2.1) : σ 14 k = a.2.1 (123 + k) := h.2.1.2.2.2.2.2.2.1 k hk
theorem X_at_sx {σ : xSt} {a : xA} (h : RX σ a) {k : Nat} (hk : k < cS a.2.1) : σ 39 k = a.2.1 (625 + k) := h.2.1.2.2.2.2.2.2.2.1 k hk
theorem X_at_sy {σ : xSt} {a : xA} (h : RX σ a) {k : Nat} (hk : k < cS a.2.1) : σ 40 k = a.2.1 (632 + k) := h.2.1.2.2.2.2.2.2.2.2.1 k hk
theorem X_at_sopen {σ : xSt} {a : xA} (h : RX σ a) {k : Nat} (hk : k < cS a.2.1) : σ 41 k = a.2.1 (639 + k) := h.2.1.2.2.2.2.2.2.2.2.2.1 k hk
theorem X_at_sclose {σ : xSt} {a : xA} (h : RX σ a) {k : Nat} (hk : k < cS a.2.1) : σ 42 k = a.2.1 (646 + k) := h.2.1.2.2.2.2.2.2.2.2.2.2.1 k hk
theorem X_at_sstay {σ : xSt} {a : xA} (h : RX σ a) {k : Nat} (hk : k < cS a.2.1) : σ 43 k = a.2.1 (653 + k) := h.2.1.2.2.2.2.2.2.2.2.2.2.2.1 k hk
theorem X_at_dgrams {σ : xSt} {a : xA} (h : RX σ a) {k : Nat} (hk : k < cD a.2.1) : σ 15 k = a.2.1 (123 + k) * a.2.1 (19 + (a.2.1 (103 + k)).toNatClampNeg) := h.2.1.2.2.2.2.2.2.2.2.2.2.2.2.1 k hk
theorem X_at_wanted {σ : xSt} {a : xA} (h : RX σ a) {r k : Nat} (hr : r < 6) (hk : k < cN a.2.1 r) : σ 36 (60 * r + k) = a.2.1 (265 + (60 * r + k)) := h.2.1.2.2.2.2.2.2.2.2.2.2.2.2.2 r hr k hk
theorem M_at {σ : xSt} {a : xA} (h : RM σ a) {k : Nat} (hk : k < 660) : σ 1 k = a.2.1 k := h.1 k hk
theorem X_needGood (p0 : Int32) (σ : xSt) : fX11_needGood p0 σ = if 0 ≤ p0 ∧ p0 ≤ 7 then some (.inl 0, σ) else some (.inr 0, σ) := by
  unfold fX11_needGood
  rw [X_isWithin, xc2_t]
  by_cases h : 0 ≤ p0 ∧ p0 ≤ 7
  · rw [if_pos h, if_pos h, X_needIndex1]; rfl
  · rw [if_neg h, if_neg h, X_needIndex0]; rfl
theorem X_needRecipe {σ : xSt} {a : xA} (h : RX σ a) (p0 : Int32) : fX11_needRecipe p0 σ = if 0 ≤ p0 ∧ p0 ≤ a.2.1 5 - 1 then some (.inl 0, σ) else some (.inr 0, σ) := by
  unfold fX11_needRecipe
  rw [X_isWithin, xc2_t, X_at_nrec h]
  by_cases h : 0 ≤ p0 ∧ p0 ≤ a.2.1 5 - 1
  · rw [if_pos h, if_pos h, X_needIndex1]; rfl
  · rw [if_neg h, if_neg h, X_needIndex0]; rfl
theorem X_needDough {σ : xSt} {a : xA} (h : RX σ a) (p0 : Int32) : fX11_needDough p0 σ = if 0 ≤ p0 ∧ p0 ≤ a.2.1 6 - 1 then some (.inl 0, σ) else some (.inr 0, σ) := by
  unfold fX11_needDough
  rw [X_isWithin, xc2_t, X_at_ndough h]
  by_cases h : 0 ≤ p0 ∧ p0 ≤ a.2.1 6 - 1
  · rw [if_pos h, if_pos h, X_needIndex1]; rfl
  · rw [if_neg h, if_neg h, X_needIndex0]; rfl
/-- the number of recipes (doughs, shops) as the guards read it -/
theorem x_cnt {x : Int32} {c : Nat} {p : Int32} (e : x = nI c) (hc : c < 1000) (h : 0 ≤ p ∧ p ≤ x - 1) : ∃ k, k < c ∧ p = nI k := by
  subst e
  match c, hc, h with
  | 0, _, h =>
    exfalso
    rw [fa_le, fa_le, show (nI 0 - 1 : Int32).toInt = -1 from by decide +kernel, show (0 : Int32).toInt = 0 from rfl] at h
    omega
  | c + 1, hc, h =>
    rw [nI_pred, fa_le, fa_le, nI_toInt (by omega), show (0 : Int32).toInt = 0 from rfl] at h
    refine ⟨p.toInt.toNat, by omega, ?_⟩
    rw [fa_eq, nI_toInt (by omega)]
    omega
theorem caps.upd {s : sS} (h : caps s) {j : Nat} (hj : j ≠ 5 ∧ j ≠ 6 ∧ j ≠ 7 ∧ ¬ (103 ≤ j ∧ j < 123) ∧ ¬ (259 ≤ j ∧ j < 265)) (v : Int32) : caps (upd s j v) := by
  obtain ⟨h1, h2, h3, h4, h5, h6, h7, h8, h9⟩ := h
  unfold caps
  rw [cR_ne s v (by omega), cD_ne s v (by omega), cS_ne s v (by omega)]
  refine ⟨h1, h2, h3, fun r hr => ?_, fun k hk => ?_, by rw [upd_ne s v (by omega)]; exact h6, by rw [upd_ne s v (by omega)]; exact h7, by rw [upd_ne s v (by omega)]; exact h8, fun r hr => ?_⟩
  · rw [cN_ne s r v (by omega)]; exact h4 r hr
  · rw [upd_ne s v (by omega)]; exact h5 k hk
  · rw [cN_ne s r v (by omega), upd_ne s v (by omega)]; exact h9 r hr
def sp_setWarmth (p0 : Int32) (a : xA) : xO × xA := if 0 ≤ p0 ∧ p0 ≤ 5 then (.inl (a.2.1 1), (kp a.1 a.2.1, upd a.2.1 1 p0, a.2.2)) else (.inr 1, a)
theorem X_setWarmth {σ : xSt} {H : List sS} {s : sS} {tx : (Nat → Int32) × Nat} (h : RX σ (H, s, tx)) (hc : caps s) (p0 : Int32) : XR (fX11_setWarmth p0 σ) (sp_setWarmth p0 (H, s, tx)) := by
  unfold fX11_setWarmth sp_setWarmth
  rw [X_isWithin, xc2_t]
  by_cases g1 : 0 ≤ p0 ∧ p0 ≤ 5
  · rw [if_pos g1, if_pos g1, X_needArgument1, xct_l]
    obtain ⟨σ1, e1, h1, f1⟩ := X_remember h
    simp only [e1, xc_t, xl_t, xp_t]
    exact ⟨_, by simp only [X_at_warmth h1], X_set_warmth h1 hc p0⟩
  · rw [if_neg g1, if_neg g1, X_needArgument0, xct_r]
    exact ⟨σ, rfl, h⟩
def sp_setHeat (p0 : Int32) (a : xA) : xO × xA := if 20 ≤ p0 ∧ p0 ≤ 320 then (.inl (a.2.1 2), (kp a.1 a.2.1, upd a.2.1 3 p0, a.2.2)) else (.inr 1, a)
theorem X_setHeat {σ : xSt} {H : List sS} {s : sS} {tx : (Nat → Int32) × Nat} (h : RX σ (H, s, tx)) (hc : caps s) (p0 : Int32) : XR (fX11_setHeat p0 σ) (sp_setHeat p0 (H, s, tx)) := by
  unfold fX11_setHeat sp_setHeat
  rw [X_isWithin, xc2_t]
  by_cases g1 : 20 ≤ p0 ∧ p0 ≤ 320
  · rw [if_pos g1, if_pos g1, X_needArgument1, xct_l]
    obtain ⟨σ1, e1, h1, f1⟩ := X_remember h
    simp only [e1, xc_t, xl_t, xp_t]
    exact ⟨_, by simp only [xu_at, upd_ne (σ1 20) p0 (show (3 : Nat) ≠ 4 by decide), X_at_heat h1], X_set_setHeat h1 hc p0⟩
  · rw [if_neg g1, if_neg g1, X_needArgument0, xct_r]
    exact ⟨σ, rfl, h⟩
def sp_setDecks (p0 : Int32) (a : xA) : xO × xA := if 1 ≤ p0 ∧ p0 ≤ 4 then (.inl (a.2.1 4), (kp a.1 a.2.1, upd a.2.1 4 p0, a.2.2)) else (.inr 1, a)
theorem X_setDecks {σ : xSt} {H : List sS} {s : sS} {tx : (Nat → Int32) × Nat} (h : RX σ (H, s, tx)) (hc : caps s) (p0 : Int32) : XR (fX11_setDecks p0 σ) (sp_setDecks p0 (H, s, tx)) := by
  unfold fX11_setDecks sp_setDecks
  rw [X_isWithin, xc2_t]
  by_cases g1 : 1 ≤ p0 ∧ p0 ≤ 4
  · rw [if_pos g1, if_pos g1, X_needArgument1, xct_l]
    obtain ⟨σ1, e1, h1, f1⟩ := X_remember h
    simp only [e1, xc_t, xl_t, xp_t]
    exact ⟨_, by simp only [X_at_decks h1], X_set_decks h1 hc p0⟩
  · rw [if_neg g1, if_neg g1, X_needArgument0, xct_r]
    exact ⟨σ, rfl, h⟩
def sp_store (p0 : Int32) (a : xA) : xO × xA := if 0 ≤ p0 ∧ p0 ≤ 7 then (.inl (a.2.1 (11 + p0.toNatClampNeg)), a) else (.inr 0, a)
theorem X_store {σ : xSt} {H : List sS} {s : sS} {tx : (Nat → Int32) × Nat} (h : RX σ (H, s, tx)) (hc : caps s) (p0 : Int32) : XR (fX11_store p0 σ) (sp_store p0 (H, s, tx)) := by
  unfold fX11_store sp_store
  rw [X_needGood]
  by_cases g1 : 0 ≤ p0 ∧ p0 ≤ 7
  · rw [if_pos g1, if_pos g1, xct_l]
    obtain ⟨k, -, hk, rfl⟩ := x_rng (a := 0) (b := 7) rfl (by decide) (by decide) (by decide) g1
    rw [xr_n (by omega) (by decide), nI_clamp (by omega), X_at_grams h (by omega)]
    exact ⟨σ, rfl, h⟩
  · rw [if_neg g1, if_neg g1, xct_r]
    exact ⟨σ, rfl, h⟩
def sp_receive (p0 : Int32) (p1 : Int32) (a : xA) : xO × xA := if 0 ≤ p0 ∧ p0 ≤ 7 then (if p0 = 7 then (.inr 1, a) else if 1 ≤ p1 ∧ p1 ≤ 200000 then (if 1000000 < a.2.1 (11 + p0.toNatClampNeg) + p1 then (.inr 2, a) else (.inl (a.2.1 (11 + p0.toNatClampNeg) + p1), (kp a.1 a.2.1, upd (upd a.2.1 (11 + p0.toNatClampNeg) (a.2.1 (11 + p0.toNatClampNeg) + p1)) 8 (a.2.1 8 + p1), a.2.2))) else (.inr 1, a)) else (.inr 0, a)
theorem X_receive {σ : xSt} {H : List sS} {s : sS} {tx : (Nat → Int32) × Nat} (h : RX σ (H, s, tx)) (hc : caps s) (p0 : Int32) (p1 : Int32) : XR (fX11_receive p0 p1 σ) (sp_receive p0 p1 (H, s, tx)) := by
  unfold fX11_receive sp_receive
  rw [X_needGood]
  by_cases g1 : 0 ≤ p0 ∧ p0 ≤ 7
  · rw [if_pos g1, if_pos g1, xct_l]
    by_cases g2 : p0 = 7
    · rw [if_pos g2, if_pos g2]
      exact ⟨σ, rfl, h⟩
    · rw [if_neg g2, if_neg g2, X_isWithin, xc2_t]
      by_cases g3 : 1 ≤ p1 ∧ p1 ≤ 200000
      · rw [if_pos g3, if_pos g3, if_neg (by decide)]
        unfold fX11_receive_c25
        obtain ⟨k, -, hk, rfl⟩ := x_rng (a := 0) (b := 7) rfl (by decide) (by decide) (by decide) g1
        rw [X_needArgument1, xct_l, xr_n (by omega) (by decide), nI_clamp (by omega), X_at_grams h (by omega)]
        show XR (if 1000000 < s (11 + k) + p1 then _ else _) (if 1000000 < s (11 + k) + p1 then _ else _)
        by_cases g4 : 1000000 < s (11 + k) + p1
        · rw [if_pos g4, if_pos g4]
          exact ⟨σ, rfl, h⟩
        · rw [if_neg g4, if_neg g4]
          unfold fX11_receive_c49
          obtain ⟨σ1, e1, h1, f1⟩ := X_remember h
          have a1 : σ1 3 k = s (11 + k) := X_at_grams h1 (by omega)
          have h2 := X_set_grams h1 hc (show k < 8 by omega) (s (11 + k) + p1)
          have hc2 : caps (upd s (11 + k) (s (11 + k) + p1)) := hc.upd (by omega) _
          have a2 : xu σ1 3 k (s (11 + k) + p1) 2 1 = s 8 := (X_at_came h2).trans (upd_ne s _ (by omega))
          rw [X_needState1, xct_l, e1, xc_t, xr_n (by omega) (by decide), a1, xs_n (by omega) (by decide), xp_t, a2, xr_n (by omega) (by decide)]
          exact ⟨_, by rw [xu_ne _ _ _ (by decide), xu_at, upd_at], X_set_came h2 hc2 (s 8 + p1)⟩
      · rw [if_neg g3, if_neg g3, if_pos rfl]
        exact ⟨σ, rfl, h⟩
  · rw [if_neg g1, if_neg g1, xct_r]
    exact ⟨σ, rfl, h⟩