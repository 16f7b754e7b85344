/-! isDay: a deed drawn and done, and the day -/
theorem P_fin {N R m : Nat} {X : Option (Int32 × xSt)} {k69 : Int32 → xSt → Option (Int32 × xSt)} {σ : xSt} {H : List sS} {s : sS} {tx : (Nat → Int32) × Nat} (h : RX σ (H, s, tx)) (hG : GH N (H, s, tx)) (w : LW R σ s) (e : X = fL_isDay_c470 k69 (nI (m + 1)) σ) : ∃ σ', RX σ' (H, s, tx) ∧ LW R σ' s ∧ X = k69 (nI m) σ' := by
  obtain ⟨σ1, h1, k1, e1⟩ := P_c470 h hG w
  exact ⟨σ1, h1, w.ofL k1, e.trans (e1 k69 m)⟩
theorem P_c327 {N R j m x : Nat} {σ : xSt} {H : List sS} {s : sS} {tx : (Nat → Int32) × Nat} (h : RX σ (H, s, tx)) (hG : GH N (H, s, tx)) (hN : N ≤ 900) (w : LW R σ s) (wp : WP s) (hj : cD s ≤ j) (ht : (s 0).toInt ≤ 12 * j) (hj2 : j ≤ 14) (hx : x < 8) (k69 : Int32 → xSt → Option (Int32 × xSt)) : ∃ σ' H' s', RX σ' (H', s', tx) ∧ GH (N + 20) (H', s', tx) ∧ LW R σ' s' ∧ DO R (j + 1) s s' ∧ fL_isDay_c327 k69 (nI (m + 1)) (nI x) σ = fL_isDay_c470 k69 (nI (m + 1)) σ' := by
  have hI : Inv N s := hG.inv
  have hc := hI.caps
  have h20 : cD s ≤ 20 := hc.2.1
  have same : ∀ τ, RX τ (H, s, tx) → kX σ τ → ∃ σ' H' s', RX σ' (H', s', tx) ∧ GH (N + 20) (H', s', tx) ∧ LW R σ' s' ∧ DO R (j + 1) s s' ∧ fL_isDay_c470 k69 (nI (m + 1)) τ = fL_isDay_c470 k69 (nI (m + 1)) σ' := fun τ hτ k => ⟨τ, H, s, hτ, hG.le (by omega), w.ofX k, ⟨wp, by omega, by omega, fun _ _ => rfl⟩, rfl⟩
  unfold fL_isDay_c327
  by_cases x6 : x = 6
  · have y6 : nI x = 6 := congrArg (fun z => nI z) x6
    obtain ⟨σ1, H1, s1, h1, g1, w1, wp1, e1, e2⟩ := P_c335 (cD s) 0 xF17 N σ H s (by omega) (by have h9 : xF17 = 17 := rfl; omega) h hG w wp
    have d1 : cD s1 = cD s := by
      unfold cD
      rw [e1 6 (by omega)]
    rw [if_pos y6]
    exact ⟨σ1, H1, s1, h1, g1.le (by omega), w1, ⟨wp1, by omega, by rw [e1 0 (by omega)]; omega, fun q hq => e1 q (by omega)⟩, e2 k69 _⟩
  · have n6 : ¬ nI x = 6 := fun h9 => x6 ((nI_eq (a := x) (b := 6) (by omega) (by omega)).mp h9)
    rw [if_neg n6]
    by_cases x7 : x = 7
    · have y7 : nI x = 7 := congrArg (fun z => nI z) x7
      rw [if_pos y7, w.1.2.1]
      by_cases z : cD s = 0
      · rw [z, if_pos (by decide)]
        exact same σ h (fun _ _ _ => rfl)
      · rw [if_neg (show ¬ nI (cD s) ≤ 0 from nI_ge (a := 0) (by omega) (by omega))]
        obtain ⟨k, σ0, kD, e0, k0⟩ := P_nx σ (n := cD s) (by omega) (by omega)
        obtain ⟨σ1, h1, k1, e1⟩ := P_doughAt4 (k53.RX k0 h) hG (k := k) kD
        have e1 : ∀ {β : Type} (K : Int32 → xSt → Option β), xco (fX11_doughAt (nI k) 4 σ0) σ0 K = K (s (123 + k) * s (19 + drc s k)) σ1 := e1
        have dr : drc s k < R := by
          rw [w.2.1.2.2]
          exact drc_lt hc kD
        obtain ⟨lo, hi, al, ww, pp, pv, _, ⟨f1, f2, f3, f4, f5, f6, f7⟩, q1, q2, q3, q4, q5, q6⟩ := w.2.2 _ dr
        have a2 := (hI.dough k kD).2.1
        have a3 : s (123 + k) = nI (s (123 + k)).toNatClampNeg := bt_nI a2 (by decide)
        have a4 := bt_cl a2 (by decide)
        have b1 : 1 * 50 ≤ (s (123 + k)).toNatClampNeg * pp := Nat.mul_le_mul (by omega) (by omega)
        have b2 : (s (123 + k)).toNatClampNeg * pp ≤ 40 * 109 := Nat.mul_le_mul (by omega) (by omega)
        have b3 : (50 : Int32) ≤ s (123 + k) * s (19 + drc s k) := by
          rw [f1, a3, nI_mul]
          exact nI_le (a := 50) (by omega) (by omega)
        rw [xc2_s e0, e1, if_pos b3]
        exact same σ1 h1 (k0.x.tr k1.x)
    · have n7 : ¬ nI x = 7 := fun h9 => x7 ((nI_eq (a := x) (b := 7) (by omega) (by omega)).mp h9)
      rw [if_neg n7]
      exact same σ h (fun _ _ _ => rfl)
theorem P_dayDeed {N R j m n : Nat} {σ : xSt} {H : List sS} {s : sS} {tx : (Nat → Int32) × Nat} (h : RX σ (H, s, tx)) (hG : GH N (H, s, tx)) (hN : N ≤ 900) (w : LW R σ s) (wp : WP s) (hj : cD s ≤ j) (ht : (s 0).toInt ≤ 12 * j) (hj2 : j ≤ 14) (hm : m ≤ 20) : ∃ σ' H' s', RX σ' (H', s', tx) ∧ GH (N + 20) (H', s', tx) ∧ LW R σ' s' ∧ DO R (j + 1) s s' ∧ fL_isDay_c69 (n + 1) (nI (m + 1)) σ = fL_isDay_c470 (fL_isDay_c69 n) (nI (m + 1)) σ' := by
  have hI : Inv N s := hG.inv
  have hc := hI.caps
  have h20 : cD s ≤ 20 := hc.2.1
  have o := hI.oven.1
  have t0 : s 0 = nI (s 0).toNatClampNeg := bt_nI o (by decide)
  have t0b := bt_cl o (by decide)
  obtain ⟨x, σ1, hx, e1, k1⟩ := P_nx σ (n := 8) (by omega) (by omega)
  have e1 : fX12_next 8 σ = some (nI x, σ1) := e1
  have h1 := k53.RX k1 h
  have w1 : LW R σ1 s := w.ofX k1.x
  rw [fL_isDay_c69_s, if_neg (show ¬ nI (m + 1) ≤ 0 from nI_ge (a := 0) (by omega) (by omega)), xc2_s e1]
  by_cases c3 : 3 ≤ x
  · rw [if_pos (show (3 : Int32) ≤ nI x from nI_le (a := 3) c3 (by omega))]
    by_cases c5 : 5 ≤ x
    · rw [if_pos (show (5 : Int32) ≤ nI x from nI_le (a := 5) c5 (by omega))]
      by_cases x5 : x = 5
      · have y5 : nI x = 5 := congrArg (fun z => nI z) x5
        rw [if_pos y5]
        by_cases z : cD s = 0
        · rw [w1.1.2.1, z, if_pos (by decide)]
          exact P_c327 h1 hG hN w1 wp hj ht hj2 hx _
        · rw [if_neg (show ¬ σ1 52 3 ≤ 0 by rw [w1.1.2.1]; exact nI_ge (a := 0) (by omega) (by omega))]
          exact P_shapeDeed h1 hG hN w1 wp hj ht hj2 (by omega) _
      · have n5 : ¬ nI x = 5 := fun h9 => x5 ((nI_eq (a := x) (b := 5) (by omega) (by omega)).mp h9)
        rw [if_neg n5]
        exact P_c327 h1 hG hN w1 wp hj ht hj2 hx _
    · rw [if_neg (show ¬ (5 : Int32) ≤ nI x from nI_ge (b := 5) (by omega) (by decide)), P_now h1]
      by_cases x3 : x = 3
      · have y3 : nI x = 3 := congrArg (fun z => nI z) x3
        rw [if_pos y3]
        have e9 : 10 - (s 0 - s 0 / 10 * 10) = nI (10 - (s 0).toNatClampNeg % 10) := by
          have e10 : (10 : Int32) = nI 10 := rfl
          conv => lhs; rw [t0, e10, nI_rem (by omega) (by omega) (by decide), nI_subeq (by omega)]
        obtain ⟨σ2, H2, s2, h2, g2, w2, d2, p2⟩ := P_passDeed h1 hG hN w1 wp hj ht hj2 (n := 10 - (s 0).toNatClampNeg % 10) (by omega)
        refine ⟨σ2, H2, s2, h2, g2, w2, d2, ?_⟩
        have p3 := p2 (fL_isDay_c69 n) (nI (m + 1))
        rw [← e9] at p3
        exact p3
      · have n3 : ¬ nI x = 3 := fun h9 => x3 ((nI_eq (a := x) (b := 3) (by omega) (by omega)).mp h9)
        obtain ⟨y, σ2, hy, e2, k2⟩ := P_nx σ1 (n := 12) (by omega) (by omega)
        have e2 : fX12_next 12 σ1 = some (nI y, σ2) := e2
        have a1 : 1 + nI y = nI (y + 1) := by
          rw [Int32.add_comm]
          exact (Int32.ofNat_add y 1).symm
        obtain ⟨σ3, H3, s3, h3, g3, w3, d3, p3⟩ := P_passDeed (k53.RX k2 h1) hG hN (w1.ofX k2.x) wp hj ht hj2 (n := y + 1) (by omega)
        refine ⟨σ3, H3, s3, h3, g3, w3, d3, ?_⟩
        rw [if_neg n3, xc2_s e2, a1]
        exact p3 (fL_isDay_c69 n) (nI (m + 1))
  · rw [if_neg (show ¬ (3 : Int32) ≤ nI x from nI_ge (b := 3) (by omega) (by decide))]
    exact P_mixDeed h1 hG hN w1 wp hj ht hj2 _
theorem P_dayLoop {R : Nat} {tx : (Nat → Int32) × Nat} : ∀ (m n j N : Nat) (σ : xSt) (H : List sS) (s : sS), m < n → j + m ≤ 15 → N + 20 * m ≤ 900 → RX σ (H, s, tx) → GH N (H, s, tx) → LW R σ s → WP s → cD s ≤ j → (s 0).toInt ≤ 12 * j → ∃ σ' H' s', RX σ' (H', s', tx) ∧ GH (N + 20 * m) (H', s', tx) ∧ LW R σ' s' ∧ DO R 15 s s' ∧ fL_isDay_c69 n (nI m) σ = some (1, σ')
  | 0, n + 1, j, N, σ, H, s, _, hjm, _, h, hG, w, wp, hj, ht => by
    refine ⟨σ, H, s, h, hG, w, ⟨wp, by omega, by omega, fun _ _ => rfl⟩, ?_⟩
    rw [fL_isDay_c69_s]
    exact if_pos (by decide)
  | m + 1, n + 1, j, N, σ, H, s, hn, hjm, hNm, h, hG, w, wp, hj, ht => by
    obtain ⟨σ1, H1, s1, h1, g1, w1, ⟨d1, d2, d3, d4⟩, e1⟩ := P_dayDeed (m := m) (n := n) h hG (by omega) w wp hj ht (by omega) (by omega)
    obtain ⟨σ2, h2, w2, e2⟩ := P_fin h1 g1 w1 e1
    obtain ⟨σ3, H3, s3, h3, g3, w3, ⟨f1, f2, f3, f4⟩, e3⟩ := P_dayLoop m n (j + 1) (N + 20) σ2 H1 s1 (by omega) (by omega) (by omega) h2 g1 w2 d1 d2 (by omega)
    exact ⟨σ3, H3, s3, h3, g3.le (by omega), w3, ⟨f1, f2, f3, fun q hq => (f4 q hq).trans (d4 q hq)⟩, e2.trans e3⟩
  | _, 0, _, _, _, _, _, h0, _, _, _, _, _, _, _, _ => absurd h0 (Nat.not_lt_zero _)
/-- the day, whole: no dough yet, and the hour 0 -/
theorem P_isDay {N R : Nat} {σ : xSt} {H : List sS} {s : sS} {T : Nat → Int32} (h : RX σ (H, s, T, 0)) (hG : GH N (H, s, T, 0)) (hN : N ≤ 500) (hR : 1 ≤ R ∧ R ≤ 4 ∧ R = cR s) (hc : ∀ i, i < R → Rc1 σ s i) (l2 : σ 52 2 = nI R) (l3 : σ 52 3 = 0) {D W : Nat} (hD : 1 ≤ D ∧ D ≤ 3) (hW : W ≤ 5) (l4 : σ 52 4 = nI D) (l5 : σ 52 5 = nI W) (s0 : s 0 = 0) (s1 : s 1 = 2) (s2 : ¬ s 2 < 20) (s4 : ¬ s 4 < 1) (s6 : cD s = 0) : ∃ σ' H' s', RX σ' (H', s', T, 0) ∧ GH (N + 310) (H', s', T, 0) ∧ LW R σ' s' ∧ (∀ q, (q = 7 ∨ 247 ≤ q) → s' q = s q) ∧ fL_isDay σ = some (1, σ') := by
  obtain ⟨σ1, H1, t, q, m, h1, g1, q1, m1, et, k1, e1⟩ := P_isDayTop h hG hD hW l4 l5 s1 s2 s4
  have es : ∀ p, p ≠ 1 → p ≠ 3 → p ≠ 4 → t p = s p := fun p n1 n3 n4 => by rw [et, upd_ne _ _ n1, upd_ne _ _ n4, upd_ne _ _ n3]
  have t4 : t 4 = nI D := by rw [et, upd_ne _ _ (by omega), upd_at]
  have t1 : t 1 = nI W := by rw [et, upd_at]
  have dt : cD t = 0 := by
    unfold cD
    rw [es 6 (by omega) (by omega) (by omega)]
    exact s6
  have rt : cR t = cR s := by
    unfold cR
    rw [es 5 (by omega) (by omega) (by omega)]
  have ek : σ1 52 = σ 52 := k1 52 (by omega) (by omega)
  have w : LW R σ1 t := by
    refine ⟨⟨by rw [ek]; exact l2, by rw [ek, dt]; exact l3, by rw [ek, t4]; exact l4, by rw [ek, t1]; exact l5⟩, by rw [rt]; exact hR, fun i hi => (hc i hi).cg (fun q q1 q2 => by rw [k1 q (by omega) (by omega)]) (fun q hq => es q (by omega) (by omega) (by omega))⟩
  have wp : WP t := fun k hk => absurd hk (by rw [dt]; omega)
  obtain ⟨σ2, H2, s', h2, g2, w2, ⟨_, _, _, d4⟩, e2⟩ := P_dayLoop m xF17 0 (N + 3) σ1 H1 t (by have h9 : xF17 = 17 := rfl; omega) (by omega) (by omega) h1 g1 w wp (by omega) (by rw [es 0 (by omega) (by omega) (by omega), s0]; decide)
  exact ⟨σ2, H2, s', h2, g2.le (by omega), w2, fun q hq => (d4 q hq).trans (es q (by omega) (by omega) (by omega)), e1.trans e2⟩
