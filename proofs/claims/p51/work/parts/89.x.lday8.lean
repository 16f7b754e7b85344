/-! isDay: what holds between the deeds -/
def WP (s : sS) : Prop := ∀ k, k < cD s → s (163 + k) = 1 → s (25 + drc s k) ≤ s (143 + k) ∧ s (143 + k) ≤ s (31 + drc s k)
theorem LW.act {R : Nat} {σ τ : xSt} {s s' : sS} (h : LW R σ s) (k : kX σ τ) (e : ∀ q, (q = 1 ∨ q = 4 ∨ q = 5 ∨ q = 6 ∨ (19 ≤ q ∧ q < 103)) → s' q = s q) : LW R τ s' := by
  obtain ⟨⟨h1, h2, h3, h4⟩, h5, h6⟩ := h.ofX k
  have d : cD s' = cD s := by
    unfold cD
    rw [e 6 (by omega)]
  have r : cR s' = cR s := by
    unfold cR
    rw [e 5 (by omega)]
  refine ⟨⟨h1, by rw [d]; exact h2, by rw [e 4 (by omega)]; exact h3, by rw [e 1 (by omega)]; exact h4⟩, by rw [r]; exact h5, fun i hi => (h6 i hi).cg (fun _ _ _ => rfl) (fun q hq => e q (by omega))⟩
theorem WP.act {s s' : sS} (h : WP s) (hd : cD s' = cD s) (e : ∀ q, (19 ≤ q ∧ q < 143) → s' q = s q) (e2 : ∀ k, k < cD s → s' (163 + k) = 1 → s (163 + k) = 1 ∧ s' (143 + k) = s (143 + k)) (hc : caps s) : WP s' := by
  intro k hk h1
  rw [hd] at hk
  have h20 : cD s ≤ 20 := hc.2.1
  have dr : drc s' k = drc s k := by
    unfold drc
    rw [e (103 + k) (by omega)]
  have dl : drc s k < 6 := Nat.lt_of_lt_of_le (drc_lt hc hk) hc.1
  obtain ⟨g1, g2⟩ := e2 k hk h1
  rw [dr, g2, e (25 + drc s k) (by omega), e (31 + drc s k) (by omega)]
  exact h k hk g1
/-- between two deeds -/
theorem P_c470 {N R : Nat} {σ : xSt} {H : List sS} {s : sS} {tx : (Nat → Int32) × Nat} (h : RX σ (H, s, tx)) (hG : GH N (H, s, tx)) (w : LW R σ s) : ∃ σ', RX σ' (H, s, tx) ∧ kL σ σ' ∧ ∀ (k69 : Int32 → xSt → Option (Int32 × xSt)) (m : Nat), fL_isDay_c470 k69 (nI (m + 1)) σ = k69 (nI m) σ' := by
  have hI : Inv N s := hG.inv
  have e6 : s 6 = nI (cD s) := hI.caps.2.2.2.2.2.2.1
  obtain ⟨σ1, e1, h1, k1⟩ := P_isKept h hI
  obtain ⟨σ2, h2, k2, e2⟩ := P_isPlanned h1 hG (w.ofL k1)
  refine ⟨σ2, h2, k1.tr k2, fun k69 m => ?_⟩
  have e0 : ∀ {β : Type} (K : Int32 → xSt → Option β), xcm (fX11_doughCount σ) σ K = K (s 6) σ := fun K => xcm_same (X_doughCount h) K
  have n1 : ¬ (1 : Int32) = 0 := by decide
  unfold fL_isDay_c470
  rw [e0, w.1.2.1, if_pos e6, xc2_s e1, if_neg n1, xc2_s e2, if_neg n1, xl_t, nI_negsub]
/-- the doughs are put into the oven, one behind the other -/
theorem P_c335 {R : Nat} {tx : (Nat → Int32) × Nat} : ∀ (d k n N : Nat) (σ : xSt) (H : List sS) (s : sS), k + d = cD s → d < n → RX σ (H, s, tx) → GH N (H, s, tx) → LW R σ s → WP s → ∃ σ' H' s', RX σ' (H', s', tx) ∧ GH (N + d) (H', s', tx) ∧ LW R σ' s' ∧ WP s' ∧ (∀ q, (q < 163 ∨ 223 ≤ q) → s' q = s q) ∧ ∀ (k69 : Int32 → xSt → Option (Int32 × xSt)) (a1 : Int32), fL_isDay_c335 k69 n a1 (nI k) σ = fL_isDay_c470 k69 a1 σ' := by
  intro d
  induction d with
  | zero =>
    intro k n N σ H s hk hn h hG w wp
    match n, hn with
    | n + 1, _ =>
      have h20 : cD s ≤ 20 := hG.inv.caps.2.1
      refine ⟨σ, H, s, h, hG, w, wp, fun _ _ => rfl, fun k69 a1 => ?_⟩
      rw [fL_isDay_c335_s, w.1.2.1, if_pos (nI_le (by omega) (by omega))]
  | succ d ih =>
    intro k n N σ H s hk hn h hG w wp
    match n, hn with
    | n + 1, hn =>
      have hI : Inv N s := hG.inv
      have h20 : cD s ≤ 20 := hI.caps.2.1
      have kD : k < cD s := by omega
      have dr : drc s k < R := by
        rw [w.2.1.2.2]
        exact drc_lt hI.caps kD
      have dr4 : drc s k < 4 := by
        have := w.2.1
        omega
      by_cases q : bakeQ s k
      · obtain ⟨σ1, h1, g1, k1, e1⟩ := (P_baked h hG kD).2 q
        have e6 : ∀ p, (p < 163 ∨ 223 ≤ p) → (upd (upd s (163 + k) 2) (203 + k) (s 0)) p = s p := fun p hp => by rw [upd_ne _ _ (by omega), upd_ne _ _ (by omega)]
        generalize hs1 : upd (upd s (163 + k) 2) (203 + k) (s 0) = s1 at h1 g1 e6
        have d1 : cD s1 = cD s := by
          unfold cD
          rw [e6 6 (by omega)]
        have w1 : LW R σ1 s1 := w.act k1.x (fun p hp => e6 p (by omega))
        have wp1 : WP s1 := wp.act d1 (fun p hp => e6 p (by omega)) (fun i hi hs => by
          refine ⟨?_, e6 _ (by omega)⟩
          rw [← hs1, upd_ne _ _ (by omega)] at hs
          by_cases c : i = k
          · rw [c, upd_at] at hs
            exact absurd hs (by decide)
          · rw [upd_ne _ _ (by omega)] at hs
            exact hs) hI.caps
        have kD1 : k < cD s1 := by omega
        obtain ⟨σ2, h2, k2, e2⟩ := P_doughAt h1 g1 (k := k) (p := 0) kD1 (by omega)
        obtain ⟨σ3, h3, k3, e3⟩ := P_doughAt h2 g1 (k := k) (p := 2) kD1 (by omega)
        have e2 : ∀ {β : Type} (K : Int32 → xSt → Option β), xco (fX11_doughAt (nI k) 0 σ1) σ1 K = K (s1 (103 + k)) σ2 := e2
        have e3 : ∀ {β : Type} (K : Int32 → xSt → Option β), xco (fX11_doughAt (nI k) 2 σ2) σ2 K = K (s1 (143 + k)) σ3 := e3
        have w3 : LW R σ3 s1 := (w1.ofL k2).ofL k3
        have e4 : ∀ {β : Type} (K : Int32 → xSt → Option β), xcm (fX11_now σ3) σ3 K = K (s1 0) σ3 := P_now h3
        have r1 : s (103 + k) = nI (drc s k) := (hI.dough k kD).1
        have kk : kL σ σ3 := (k1.tr k2).tr k3
        have w3' := w.ofL kk
        obtain ⟨lo, hi, al, ww, pp, pv, ⟨c1, c2, c3, c4⟩, ⟨f1, f2, f3, f4, f5, f6, f7⟩, q1, q2, q3, q4, q5, q6⟩ := w3'.2.2 _ dr
        have fit : s (25 + drc s k) ≤ s (143 + k) ∧ s (143 + k) ≤ s (31 + drc s k) := by
          rcases q.1 with h9 | h9
          · exact wp k kD h9.1
          · exact h9.2
        rw [f2, f3] at fit
        have o := hI.oven.1
        have t0 : s 0 = nI (s 0).toNatClampNeg := bt_nI o (by decide)
        have t0b := bt_cl o (by decide)
        have ne : ¬ s 0 + 10 = -1 := by
          rw [t0, show (10 : Int32) = nI 10 from rfl, nI_add]
          exact nIm1 (by omega)
        obtain ⟨σ4, H4, s4, h4, g4, w4, wp4, e5, e7⟩ := ih (k + 1) n (N + 1) σ3 (kp H s) s1 (by omega) (by omega) h3 g1 w3 wp1
        refine ⟨σ4, H4, s4, h4, by rw [show N + (d + 1) = N + 1 + d by omega]; exact g4, w4, wp4, fun p hp => (e5 p hp).trans (e6 p hp), fun k69 a1 => ?_⟩
        rw [fL_isDay_c335_s, w.1.2.1, if_neg (nI_ge (by omega) (by omega)), xc2_s e1, e2, e3, if_neg ne, e4, e6 0 (by omega), if_pos rfl, e6 (103 + k) (by omega), e6 (143 + k) (by omega), r1, xr_n dr4 (by decide), c1, if_neg (fun h9 => by
          have h8 := fit.1
          rw [fa_lt] at h9
          rw [fa_le] at h8
          omega), xr_n dr4 (by decide), c2, if_pos fit.2, xl_t, ← nI_succ]
        exact e7 k69 a1
      · obtain ⟨σ1, h1, k1, e1⟩ := (P_baked h hG kD).1 q
        obtain ⟨σ2, h2, k2, e2⟩ := P_doughAt h1 hG (k := k) (p := 0) kD (by omega)
        obtain ⟨σ3, h3, k3, e3⟩ := P_doughAt h2 hG (k := k) (p := 2) kD (by omega)
        have e2 : ∀ {β : Type} (K : Int32 → xSt → Option β), xco (fX11_doughAt (nI k) 0 σ1) σ1 K = K (s (103 + k)) σ2 := e2
        have e3 : ∀ {β : Type} (K : Int32 → xSt → Option β), xco (fX11_doughAt (nI k) 2 σ2) σ2 K = K (s (143 + k)) σ3 := e3
        obtain ⟨σ4, H4, s4, h4, g4, w4, wp4, e5, e7⟩ := ih (k + 1) n N σ3 H s (by omega) (by omega) h3 hG (((w.ofL k1).ofL k2).ofL k3) wp
        refine ⟨σ4, H4, s4, h4, g4.le (by omega), w4, wp4, e5, fun k69 a1 => ?_⟩
        rw [fL_isDay_c335_s, w.1.2.1, if_neg (nI_ge (by omega) (by omega)), xc2_s e1, e2, e3, if_pos rfl, xl_t, ← nI_succ]
        exact e7 k69 a1
