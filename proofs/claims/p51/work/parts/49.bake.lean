/-! ===== BAKE, CRUMBLE, END OF DAY, SELL ===== -/
def wn (s : sS) : Int32 := s32 (fun k => if s (203 + k) = s 0 then 1 else 0) (cD s)
def fitQ (s : sS) (k : Nat) : Prop := (s (163 + k) = 1 ∧ ¬ s (49 + drc s k) < s 0 - s (183 + k)) ∨ (s (163 + k) = 0 ∧ (s (25 + drc s k) ≤ s (143 + k) ∧ s (143 + k) ≤ s (31 + drc s k)))
def ovQ (s : sS) (r : Nat) : Prop := s 0 - s 0 / 10 * 10 = 0 ∧ ¬ s 4 ≤ wn s ∧ (s (37 + r) ≤ s 2 ∧ s 2 ≤ s (37 + r) + 40)
def bakeQ (s : sS) (k : Nat) : Prop := fitQ s k ∧ ovQ s (drc s k)
theorem X_went0 {σ : xSt} {H : List sS} {s : sS} {tx : (Nat → Int32) × Nat} (h : RX σ (H, s, tx)) (hc : caps s) : ∀ (d i n : Nat), i + d = cD s → d < n → fX2_wentIntoOvenAt_c4 n (s 0) (s32 (fun k => if s (203 + k) = s 0 then 1 else 0) i) (nI i) σ = some (wn s, σ) := by
  have hcD := hc.2.1
  have a1 : σ 12 7 = nI (cD s) := (X_at_ndough h).trans hc.2.2.2.2.2.2.1
  intro d
  induction d with
  | zero =>
    intro i n hi hn
    obtain ⟨n, rfl⟩ : ∃ z, n = z + 1 := ⟨n - 1, by omega⟩
    obtain rfl : i = cD s := by omega
    rw [fX2_wentIntoOvenAt_c4_s, a1, if_pos (nI_le (Nat.le_refl _) (by omega))]
    rfl
  | succ d ih =>
    intro i n hi hn
    obtain ⟨n, rfl⟩ : ∃ z, n = z + 1 := ⟨n - 1, by omega⟩
    have e := ih (i + 1) n (by omega) (by omega)
    have a2 : σ 19 i = s (203 + i) := X_at_went h (by omega)
    rw [fX2_wentIntoOvenAt_c4_s, a1, if_neg (nI_ge (by omega) (by omega)), xr_n (by omega) (by decide), a2]
    have e2 : s32 (fun k => if s (203 + k) = s 0 then (1 : Int32) else 0) (i + 1) = s32 (fun k => if s (203 + k) = s 0 then 1 else 0) i + (if s (203 + i) = s 0 then 1 else 0) := rfl
    rw [e2] at e
    by_cases g : s (203 + i) = s 0
    · rw [if_pos g] at e ⊢
      rw [xl_t, xl_t, nI_1]
      exact e
    · rw [if_neg g] at e ⊢
      rw [xl_t, nI_1]
      rw [Int32.add_zero] at e
      exact e
theorem X_went {σ : xSt} {H : List sS} {s : sS} {tx : (Nat → Int32) × Nat} (h : RX σ (H, s, tx)) (hc : caps s) : fX2_wentIntoOvenAt (s 0) σ = some (wn s, σ) := X_went0 h hc (cD s) 0 xFU (by omega) (by have := hc.2.1; show cD s < 8192; omega)
theorem X_isForOven {N : Nat} {σ : xSt} {H : List sS} {s : sS} {tx : (Nat → Int32) × Nat} (h : RX σ (H, s, tx)) (hI : Inv N s) {k : Nat} (hk : k < cD s) : (fitQ s k → fX11_isForOven (nI k) σ = some (1, σ)) ∧ (¬ fitQ s k → fX11_isForOven (nI k) σ = some (0, σ)) := by
  have hc := hI.caps
  have hcR := hc.1
  have hcD := hc.2.1
  have hr := drc_lt hc hk
  have a1 : σ 17 k = s (163 + k) := X_at_state h (by omega)
  have a2 : σ 13 k = nI (drc s k) := (X_at_drec h hk).trans (drc_eq hI hk)
  have a3 : σ 18 k = s (183 + k) := X_at_shaped h (by omega)
  have a4 : σ 10 (drc s k) = s (49 + drc s k) := (X_at_wait h (by omega)).trans (if_pos hr)
  have a5 : σ 20 0 = s 0 := X_at_tick h
  have er := X_isRipe h hI hk
  unfold fX11_isForOven fX11_isForOven_c54 fX11_isForOven_c55
  rw [if_pos rfl, if_neg (by decide), xr_n (by omega) (by decide), a1, er, xc2_t]
  unfold fitQ
  by_cases g1 : s (163 + k) = 1
  · rw [if_pos g1, xr_n (by omega) (by decide), xr_n (by omega) (by decide), a2, a3, xr_n (by omega) (by decide), a4, a5]
    have n0 : ¬ s (163 + k) = 0 := by rw [g1]; decide
    rw [if_neg (c := s (163 + k) = 0 ∧ _) (fun h9 => n0 h9.1), if_pos rfl]
    by_cases g2 : s (49 + drc s k) < s 0 - s (183 + k)
    · rw [if_pos g2]
      exact ⟨fun h9 => (h9.elim (fun h8 => absurd g2 h8.2) (fun h8 => absurd h8.1 n0)), fun _ => rfl⟩
    · rw [if_neg g2]
      exact ⟨fun _ => rfl, fun h9 => absurd (Or.inl ⟨g1, g2⟩) h9⟩
  · rw [if_neg g1]
    by_cases g2 : s (163 + k) = 0 ∧ (s (25 + drc s k) ≤ s (143 + k) ∧ s (143 + k) ≤ s (31 + drc s k))
    · rw [if_pos g2, if_neg (by decide)]
      exact ⟨fun _ => rfl, fun h9 => absurd (Or.inr g2) h9⟩
    · rw [if_neg g2, if_pos rfl]
      exact ⟨fun h9 => (h9.elim (fun h8 => absurd h8.1 g1) (fun h8 => absurd h8 g2)), fun _ => rfl⟩
theorem X_isOvenFor {N : Nat} {σ : xSt} {H : List sS} {s : sS} {tx : (Nat → Int32) × Nat} (h : RX σ (H, s, tx)) (hI : Inv N s) {r : Nat} (hr : r < cR s) : (ovQ s r → fX11_isOvenFor (nI r) σ = some (1, σ)) ∧ (¬ ovQ s r → fX11_isOvenFor (nI r) σ = some (0, σ)) := by
  have hc := hI.caps
  have hcR := hc.1
  have a1 : σ 20 0 = s 0 := X_at_tick h
  have a2 : σ 20 2 = s 4 := X_at_decks h
  have a3 : σ 20 3 = s 2 := X_at_heat h
  have a4 : σ 8 r = s (37 + r) := X_at_iheat h hr
  unfold fX11_isOvenFor ovQ
  rw [a1]
  by_cases g1 : s 0 - s 0 / 10 * 10 = 0
  · rw [if_pos g1, X_went h hc, xc2_t, a2]
    by_cases g2 : s 4 ≤ wn s
    · rw [if_pos g2]
      exact ⟨fun h9 => absurd g2 h9.2.1, fun _ => rfl⟩
    · rw [if_neg g2, xr_n (by omega) (by decide), xr_n (by omega) (by decide), a3, a4, X_isWithin, xc2_t]
      by_cases g3 : s (37 + r) ≤ s 2 ∧ s 2 ≤ s (37 + r) + 40
      · rw [if_pos g3, if_neg (by decide)]
        exact ⟨fun _ => rfl, fun h9 => absurd ⟨g1, g2, g3⟩ h9⟩
      · rw [if_neg g3, if_pos rfl]
        exact ⟨fun h9 => absurd h9.2.2 g3, fun _ => rfl⟩
  · rw [if_neg g1]
    exact ⟨fun h9 => absurd h9.1 g1, fun _ => rfl⟩
theorem X_bake {N : Nat} {σ : xSt} {H : List sS} {s : sS} {tx : (Nat → Int32) × Nat} (h : RX σ (H, s, tx)) (hI : Inv N s) (p0 : Int32) :
    (¬ (0 ≤ p0 ∧ p0 ≤ s 6 - 1) → XR (fX11_bake p0 σ) (.inr 0, (H, s, tx))) ∧ ∀ k, k < cD s → p0 = nI k → (¬ bakeQ s k → XR (fX11_bake p0 σ) (.inr 2, (H, s, tx))) ∧ (bakeQ s k → XR (fX11_bake p0 σ) (.inl (s 0 + 10), (kp H s, upd (upd s (163 + k) 2) (203 + k) (s 0), tx))) := by
  have hc := hI.caps
  obtain ⟨hcR, hcD, hcS, hcN, hrec, hE5, hE6, hE7, hE9⟩ := id hc
  unfold fX11_bake
  rw [X_needDough h]
  show (_ → XR (xct (if 0 ≤ p0 ∧ p0 ≤ s 6 - 1 then _ else _) _) _) ∧ _
  refine ⟨fun g1 => ?_, fun k hk e => ?_⟩
  · rw [if_neg g1, xct_r]; exact ⟨σ, rfl, h⟩
  · subst e
    show (_ → XR (xct (if 0 ≤ nI k ∧ nI k ≤ s 6 - 1 then _ else _) _) _) ∧ (_ → XR (xct (if 0 ≤ nI k ∧ nI k ≤ s 6 - 1 then _ else _) _) _)
    have g1 : 0 ≤ nI k ∧ nI k ≤ s 6 - 1 := by
      refine ⟨nI_pos' (by omega), ?_⟩
      have := nI_pred (cD s - 1)
      rw [show cD s - 1 + 1 = cD s by omega] at this
      rw [hE6, this]
      exact nI_le (by omega) (by omega)
    have hr := drc_lt hc hk
    have a2 : σ 13 k = nI (drc s k) := (X_at_drec h hk).trans (drc_eq hI hk)
    rw [if_pos g1, xct_l]
    obtain ⟨f1, f0⟩ := X_isForOven h hI hk
    obtain ⟨o1, o0⟩ := X_isOvenFor h hI hr
    have bad : XR (fX11_bake_c33 (nI k) σ) (.inr 2, (H, s, tx)) := ⟨σ, rfl, h⟩
    unfold bakeQ
    by_cases b1 : fitQ s k
    · rw [f1 b1, xc2_t, if_neg (by decide), xr_n (by omega) (by decide), a2]
      by_cases b2 : ovQ s (drc s k)
      · rw [o1 b2, xc2_t, if_neg (by decide)]
        refine ⟨fun h9 => absurd ⟨b1, b2⟩ h9, fun _ => ?_⟩
        unfold fX11_bake_c34
        obtain ⟨σ1, e1, h1, -⟩ := X_remember h
        have h2 := X_set_state h1 hc (show k < 20 by omega) 2
        have c2 : caps (upd s (163 + k) 2) := hc.upd (by omega) _
        have h3 := X_set_went h2 c2 (show k < 20 by omega) (s 0)
        have a3 : xu σ1 17 k 2 20 0 = s 0 := (X_at_tick h2).trans (upd_ne _ _ (by omega))
        rw [X_needState1, xct_l, e1, xc_t, xs_n (by omega) (by decide), a3, xs_n (by omega) (by decide)]
        refine ⟨_, ?_, h3⟩
        rw [xu_ne _ _ _ (by decide), a3]
      · rw [o0 b2, xc2_t, if_pos rfl]
        exact ⟨fun _ => bad, fun h9 => absurd h9.2 b2⟩
    · rw [f0 b1, xc2_t, if_pos rfl]
      exact ⟨fun _ => bad, fun h9 => absurd h9.1 b1⟩