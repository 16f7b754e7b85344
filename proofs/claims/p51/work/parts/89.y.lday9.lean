/-! isDay: a deed, whole -/
theorem P_nx (σ : xSt) {n : Nat} (h0 : 0 < n) (h1 : n < 100000) : ∃ k σ', k < n ∧ fX12_next (nI n) σ = some (nI k, σ') ∧ k53 σ σ' := P_next σ h0 h1
theorem mixS_ne (s : sS) (r : Nat) (pc : Int32) (hD : cD s < 20) {q : Nat} (h : (q < 11 ∧ q ≠ 6) ∨ (19 ≤ q ∧ q < 103) ∨ 223 ≤ q ∨ ∃ k, k < cD s ∧ (q = 103 + k ∨ q = 143 + k ∨ q = 163 + k)) : mixS s r pc q = s q := by
  have e : q ≠ 6 ∧ q ≠ 103 + cD s ∧ q ≠ 123 + cD s ∧ q ≠ 143 + cD s ∧ q ≠ 163 + cD s ∧ q ≠ 183 + cD s ∧ q ≠ 203 + cD s ∧ (q < 11 ∨ 19 ≤ q) := by
    rcases h with h | h | h | ⟨k, hk, h⟩ <;> omega
  obtain ⟨e1, e2, e3, e4, e5, e6, e7, e8⟩ := e
  unfold mixS
  rw [upd_ne _ _ e7, upd_ne _ _ e6, upd_ne _ _ e5, upd_ne _ _ e4, upd_ne _ _ e3, upd_ne _ _ e2, upd_ne _ _ e1, mixN_ge _ _ _ _ _ (by omega)]
theorem mixS_6 (s : sS) (r : Nat) (pc : Int32) (hD : cD s < 20) : mixS s r pc 6 = nI (cD s + 1) := by
  unfold mixS
  rw [upd_ne _ _ (by omega), upd_ne _ _ (by omega), upd_ne _ _ (by omega), upd_ne _ _ (by omega), upd_ne _ _ (by omega), upd_ne _ _ (by omega), upd_at]
theorem mixS_st (s : sS) (r : Nat) (pc : Int32) (hD : cD s < 20) : mixS s r pc (163 + cD s) = 0 := by
  unfold mixS
  rw [upd_ne _ _ (by omega), upd_ne _ _ (by omega), upd_at]
theorem pS_pt (s : sS) (n : Nat) {k : Nat} (hk : k < cD s) (h : ¬ s (163 + k) = 0) : pS s n (143 + k) = s (143 + k) := by
  unfold pS
  rw [if_neg (by omega), if_neg (by omega), if_pos ⟨by omega, by omega⟩, show 20 + (143 + k) = 163 + k by omega, if_neg h]
theorem P_doughAt4 {N : Nat} {σ : xSt} {a : xA} (h : RX σ a) (hG : GH N a) {k : Nat} (hk : k < cD a.2.1) : ∃ σ', RX σ' a ∧ kL σ σ' ∧ ∀ {β : Type} (K : Int32 → xSt → Option β), xco (fX11_doughAt (nI k) 4 σ) σ K = K (a.2.1 (123 + k) * a.2.1 (19 + drc a.2.1 k)) σ' := by
  have hc := hG.inv.caps
  have h20 : cD a.2.1 ≤ 20 := hc.2.1
  refine P_ask (X_doughAt (H := a.1) (s := a.2.1) (tx := a.2.2) h hG.inv _ _) ?_
  unfold sp_doughAt
  have h1 : 0 ≤ nI k ∧ nI k ≤ (a.1, a.2.1, a.2.2).2.1 6 - 1 := d_in hc hk
  rw [if_pos h1, if_pos (by decide), nI_clamp (show k < 2 ^ 31 by omega)]
  rfl
/-- what a deed leaves, up to the questions behind it -/
def DO (R j : Nat) (s s' : sS) : Prop := WP s' ∧ cD s' ≤ j ∧ (s' 0).toInt ≤ 12 * j ∧ ∀ q, (q = 7 ∨ 247 ≤ q) → s' q = s q
theorem P_mixDeed {N R j m : Nat} {σ : xSt} {H : List sS} {s : sS} {tx : (Nat → Int32) × Nat} (h : RX σ (H, s, tx)) (hG : GH N (H, s, tx)) (hN : N ≤ 900) (w : LW R σ s) (wp : WP s) (hj : cD s ≤ j) (ht : (s 0).toInt ≤ 12 * j) (hj2 : j ≤ 14) (k69 : Int32 → xSt → Option (Int32 × xSt)) : ∃ σ' H' s', RX σ' (H', s', tx) ∧ GH (N + 20) (H', s', tx) ∧ LW R σ' s' ∧ DO R (j + 1) s s' ∧ (xc2 (fX12_next (σ 52 2) σ) fun r28 σ29 => (xc2 (fX12_next 8 σ29) fun r30 σ31 => (xc2 (fL_mixed r28 (1 + r30) σ31) fun r32 σ33 => (if r32 = (-1) then fL_isDay_c470 k69 (nI (m + 1)) σ33 else (xp σ33 52 3 ((σ33 52 3) + 1) fun σ34 => fL_isDay_c470 k69 (nI (m + 1)) σ34))))) = fL_isDay_c470 k69 (nI (m + 1)) σ' := by
  have hI : Inv N s := hG.inv
  have hc := hI.caps
  obtain ⟨r, σ1, hr, e1, k1⟩ := P_nx σ (n := R) w.2.1.1 (by have := w.2.1; omega)
  obtain ⟨y, σ2, hy, e2, k2⟩ := P_nx σ1 (n := 8) (by omega) (by omega)
  have e2 : fX12_next 8 σ1 = some (nI y, σ2) := e2
  have h2 := k53.RX k2 (k53.RX k1 h)
  have w2 : LW R σ2 s := (w.ofX k1.x).ofX k2.x
  have a1 : 1 + nI y = nI (y + 1) := by
    rw [Int32.add_comm]
    exact (Int32.ofNat_add y 1).symm
  obtain ⟨x1, x2⟩ := P_mixed h2 hG (by omega) (r := r) (pc := y + 1) (by rw [← w.2.1.2.2]; exact hr) (by omega)
  by_cases q : mixQ s r (nI (y + 1))
  · obtain ⟨σ3, h3, g3, k3, e3⟩ := x2 q
    have hD : cD s < 20 := q.1
    have w3 : LW R σ3 s := w2.ofL k3
    have ne : ¬ nI (cD s) = -1 := nIm1 (by omega)
    have l3 : σ3 52 3 = nI (cD s) := w3.1.2.1
    generalize hs : mixS s r (nI (y + 1)) = s' at h3 g3
    have es : ∀ q, ((q < 11 ∧ q ≠ 6) ∨ (19 ≤ q ∧ q < 103) ∨ 223 ≤ q ∨ ∃ k, k < cD s ∧ (q = 103 + k ∨ q = 143 + k ∨ q = 163 + k)) → s' q = s q := fun q hq => by
      rw [← hs]
      exact mixS_ne s r _ hD hq
    have d' : cD s' = cD s + 1 := by
      unfold cD
      rw [← hs, mixS_6 s r _ hD]
      exact nI_clamp (show cD s + 1 < 2 ^ 31 by omega)
    have r' : cR s' = cR s := by
      unfold cR
      rw [es 5 (by omega)]
    refine ⟨xu σ3 52 3 (nI (cD s + 1)), kp H s, s', ?_, g3.le (by omega), ?_, ⟨?_, by omega, ?_, fun q hq => es q (by omega)⟩, ?_⟩
    · exact h3.cong (fun q hq => xu_ne _ _ _ (by omega))
    · obtain ⟨⟨l1, l2, l4, l5⟩, l6, l7⟩ := w3
      refine ⟨⟨?_, ?_, ?_, ?_⟩, by rw [r']; exact l6, fun i hi => (l7 i hi).cg (fun q q1 q2 => by rw [xu_ne _ _ _ (by omega)]) (fun q hq => es q (by omega))⟩
      · rw [xu_at, upd_ne _ _ (by omega)]
        exact l1
      · rw [xu_at, upd_at, d']
      · rw [xu_at, upd_ne _ _ (by omega), es 4 (by omega)]
        exact l4
      · rw [xu_at, upd_ne _ _ (by omega), es 1 (by omega)]
        exact l5
    · intro k hk h9
      by_cases c : k = cD s
      · rw [c, ← hs, mixS_st s r _ hD] at h9
        exact absurd h9 (by decide)
      · have kD : k < cD s := by omega
        have dr : drc s' k = drc s k := by
          unfold drc
          rw [es (103 + k) (Or.inr (Or.inr (Or.inr ⟨k, kD, Or.inl rfl⟩)))]
        have dl : drc s k < 6 := Nat.lt_of_lt_of_le (drc_lt hc kD) hc.1
        rw [es (163 + k) (Or.inr (Or.inr (Or.inr ⟨k, kD, Or.inr (Or.inr rfl)⟩)))] at h9
        rw [dr, es (143 + k) (Or.inr (Or.inr (Or.inr ⟨k, kD, Or.inr (Or.inl rfl)⟩))), es (25 + drc s k) (by omega), es (31 + drc s k) (by omega)]
        exact wp k kD h9
    · rw [es 0 (by omega)]
      omega
    · rw [w.1.1, xc2_s e1, xc2_s e2, a1, xc2_s e3, if_neg ne, l3, ← nI_succ, xp_t]
  · obtain ⟨σ3, h3, k3, e3⟩ := x1 q
    refine ⟨σ3, H, s, h3, hG.le (by omega), w2.ofL k3, ⟨wp, by omega, by omega, fun _ _ => rfl⟩, ?_⟩
    rw [w.1.1, xc2_s e1, xc2_s e2, a1, xc2_s e3, if_pos rfl]
theorem P_passDeed {N R j : Nat} {σ : xSt} {H : List sS} {s : sS} {tx : (Nat → Int32) × Nat} (h : RX σ (H, s, tx)) (hG : GH N (H, s, tx)) (hN : N ≤ 900) (w : LW R σ s) (wp : WP s) (hj : cD s ≤ j) (ht : (s 0).toInt ≤ 12 * j) (hj2 : j ≤ 14) {n : Nat} (hn : 1 ≤ n ∧ n ≤ 12) : ∃ σ' H' s', RX σ' (H', s', tx) ∧ GH (N + 20) (H', s', tx) ∧ LW R σ' s' ∧ DO R (j + 1) s s' ∧ ∀ (k69 : Int32 → xSt → Option (Int32 × xSt)) (a1 : Int32), fL_isDay_c173 k69 a1 (s 0) (nI n) σ = fL_isDay_c470 k69 a1 σ' := by
  have hI : Inv N s := hG.inv
  have hc := hI.caps
  have h20 : cD s ≤ 20 := hc.2.1
  have o := hI.oven.1
  unfold bt at o
  have zn : (nI n).toInt = n := nI_toInt (by omega)
  have z0 : (s 0 + nI n).toInt = (s 0).toInt + n := by rw [i32_add] <;> rw [zn] <;> omega
  obtain ⟨σ1, h1, g1, k1, e1⟩ := P_c173 h hG (by omega) (n := n) (by omega) (fun h9 => by
    rw [fa_lt, z0, show (100000 : Int32).toInt = 100000 by decide] at h9
    omega)
  have pe : ∀ q, (q = 1 ∨ (3 ≤ q ∧ q < 143) ∨ 247 ≤ q) → pS s n q = s q := fun q hq => pS_at s n h20 (by omega) (by omega) (by omega) (by omega)
  refine ⟨σ1, _, _, h1, g1.le (by omega), w.act k1.x (fun q hq => pe q (by omega)), ⟨?_, ?_, ?_, fun q hq => pe q (by omega)⟩, e1⟩
  · refine wp.act (pS_cD s n h20) (fun q hq => pe q (by omega)) (fun k hk h9 => ?_) hc
    rw [pS_st s n h20 (by omega)] at h9
    by_cases c : k < cD s ∧ s (163 + k) = 2 ∧ bq s n k = true
    · rw [if_pos c] at h9
      exact absurd h9 (by decide)
    · rw [if_neg c] at h9
      exact ⟨h9, pS_pt s n hk (by rw [h9]; decide)⟩
  · rw [pS_cD s n h20]
    omega
  · have p0 : pS s n 0 = s 0 + nI n := by
      unfold pS
      rw [if_pos rfl]
    rw [p0, z0]
    omega
theorem P_shapeDeed {N R j m : Nat} {σ : xSt} {H : List sS} {s : sS} {tx : (Nat → Int32) × Nat} (h : RX σ (H, s, tx)) (hG : GH N (H, s, tx)) (hN : N ≤ 900) (w : LW R σ s) (wp : WP s) (hj : cD s ≤ j) (ht : (s 0).toInt ≤ 12 * j) (hj2 : j ≤ 14) (hp : 0 < cD s) (k69 : Int32 → xSt → Option (Int32 × xSt)) : ∃ σ' H' s', RX σ' (H', s', tx) ∧ GH (N + 20) (H', s', tx) ∧ LW R σ' s' ∧ DO R (j + 1) s s' ∧ (xc2 (fX12_next (σ 52 3) σ) fun r14 σ15 => (xco (fX11_doughAt r14 0 σ15) σ15 fun r16 σ17 => (xco (fX11_doughAt r14 2 σ17) σ17 fun r18 σ19 => (xco (fX11_doughAt r14 3 σ19) σ19 fun r20 σ21 => (if r20 = 0 then (xr σ21 54 4 r16 fun v22 => (if r18 < v22 then fL_isDay_c282 k69 (nI (m + 1)) r14 r18 σ21 else (xr σ21 55 4 r16 fun v23 => (if v23 < r18 then fL_isDay_c282 k69 (nI (m + 1)) r14 r18 σ21 else fL_isDay_c283 k69 (nI (m + 1)) r14 r18 1 σ21)))) else fL_isDay_c282 k69 (nI (m + 1)) r14 r18 σ21))))) = fL_isDay_c470 k69 (nI (m + 1)) σ' := by
  have hI : Inv N s := hG.inv
  have hc := hI.caps
  have h20 : cD s ≤ 20 := hc.2.1
  obtain ⟨k, σ0, kD, e0, k0⟩ := P_nx σ (n := cD s) hp (by omega)
  have w0 : LW R σ0 s := w.ofX k0.x
  obtain ⟨σ1, h1, k1, e1⟩ := P_doughAt (k53.RX k0 h) hG (k := k) (p := 0) kD (by omega)
  obtain ⟨σ2, h2, k2, e2⟩ := P_doughAt h1 hG (k := k) (p := 2) kD (by omega)
  obtain ⟨σ3, h3, k3, e3⟩ := P_doughAt h2 hG (k := k) (p := 3) kD (by omega)
  have e1 : ∀ {β : Type} (K : Int32 → xSt → Option β), xco (fX11_doughAt (nI k) 0 σ0) σ0 K = K (s (103 + k)) σ1 := e1
  have e2 : ∀ {β : Type} (K : Int32 → xSt → Option β), xco (fX11_doughAt (nI k) 2 σ1) σ1 K = K (s (143 + k)) σ2 := e2
  have e3 : ∀ {β : Type} (K : Int32 → xSt → Option β), xco (fX11_doughAt (nI k) 3 σ2) σ2 K = K (s (163 + k)) σ3 := e3
  have w3 : LW R σ3 s := ((w0.ofL k1).ofL k2).ofL k3
  have r1 : s (103 + k) = nI (drc s k) := (hI.dough k kD).1
  have dr : drc s k < R := by
    rw [w.2.1.2.2]
    exact drc_lt hc kD
  have dr4 : drc s k < 4 := by
    have := w.2.1
    omega
  obtain ⟨lo, hi, al, ww, pp, pv, ⟨c1, c2, c3, c4⟩, ⟨f1, f2, f3, f4, f5, f6, f7⟩, q1, q2, q3, q4, q5, q6⟩ := w3.2.2 _ dr
  have same : ∃ σ' H' s', RX σ' (H', s', tx) ∧ GH (N + 20) (H', s', tx) ∧ LW R σ' s' ∧ DO R (j + 1) s s' ∧ fL_isDay_c282 k69 (nI (m + 1)) (nI k) (s (143 + k)) σ3 = fL_isDay_c470 k69 (nI (m + 1)) σ' := ⟨σ3, H, s, h3, hG.le (by omega), w3, ⟨wp, by omega, by omega, fun _ _ => rfl⟩, by
    unfold fL_isDay_c282 fL_isDay_c283
    exact if_pos rfl⟩
  rw [w.1.2.1, xc2_s e0, e1, e2, e3, r1]
  by_cases g0 : s (163 + k) = 0
  · rw [if_pos g0, xr_n dr4 (by decide), c1]
    by_cases g1 : s (143 + k) < nI lo
    · rw [if_pos g1]
      exact same
    · rw [if_neg g1, xr_n dr4 (by decide), c2]
      by_cases g2 : nI hi < s (143 + k)
      · rw [if_pos g2]
        exact same
      · rw [if_neg g2]
        have q : shQ s k := by
          refine ⟨g0, ?_, ?_⟩
          · rw [f2, fa_le]
            rw [fa_lt] at g1
            omega
          · rw [f3, fa_le]
            rw [fa_lt] at g2
            omega
        obtain ⟨σ4, h4, g4, k4, e4⟩ := P_c283 h3 hG kD q
        have e6 : ∀ p, (p < 163 ∨ 223 ≤ p) → (upd (upd s (163 + k) 1) (183 + k) (s 0)) p = s p := fun p hp => by rw [upd_ne _ _ (by omega), upd_ne _ _ (by omega)]
        refine ⟨σ4, _, _, h4, g4.le (by omega), w3.act k4.x (fun p hp => e6 p (by omega)), ⟨?_, ?_, ?_, fun p hp => e6 p (by omega)⟩, e4 k69 _⟩
        · have dd : cD (upd (upd s (163 + k) 1) (183 + k) (s 0)) = cD s := by
            unfold cD
            rw [e6 6 (by omega)]
          intro i hi h9
          rw [dd] at hi
          have dr' : drc (upd (upd s (163 + k) 1) (183 + k) (s 0)) i = drc s i := by
            unfold drc
            rw [e6 (103 + i) (by omega)]
          have dl : drc s i < 6 := Nat.lt_of_lt_of_le (drc_lt hc hi) hc.1
          rw [dr', e6 (25 + drc s i) (by omega), e6 (31 + drc s i) (by omega), e6 (143 + i) (by omega)]
          by_cases c : i = k
          · rw [c]
            exact q.2
          · rw [upd_ne _ _ (by omega), upd_ne _ _ (by omega)] at h9
            exact wp i hi h9
        · have dd : cD (upd (upd s (163 + k) 1) (183 + k) (s 0)) = cD s := by
            unfold cD
            rw [e6 6 (by omega)]
          rw [dd]
          omega
        · rw [e6 0 (by omega)]
          omega
  · rw [if_neg g0]
    exact same
