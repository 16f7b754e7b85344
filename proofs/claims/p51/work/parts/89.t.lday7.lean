/-! isDay: the first and last ticks of a dough, as the law reckons them -/
theorem P_b187 {σ : xSt} {r hi g F : Nat} (hr : r < 4) (hh : σ 55 r = nI hi) (h1 : hi < 1000) (h2 : F < 200000) (h3 : g < 10) : ∀ (d n L p : Nat), d < n → p + g * d ≤ hi → hi < p + g * d + g → L + d < 200000 → fL_bounds_c187 n (nI r) (nI g) (nI F) (nI L) (nI p) σ = some (if F ≤ L + d then some (nI F, nI (L + d)) else none, σ)
  | 0, n + 1, L, p, _, h4, h5, h6 => by
    rw [fL_bounds_c187_s, xr_n hr (by decide)]
    rw [hh, nI_add, if_pos (nI_lt (by omega) (by omega))]
    by_cases c : F ≤ L
    · rw [if_pos (nI_le c (by omega)), if_pos (show F ≤ L + 0 from c)]
      try rfl
    · rw [if_neg (nI_ge (by omega) (by omega)), if_neg (show ¬ F ≤ L + 0 from c)]
  | d + 1, n + 1, L, p, h0, h4, h5, h6 => by
    have e : g * (d + 1) = g * d + g := Nat.mul_succ g d
    have ih := P_b187 hr hh h1 h2 h3 d n (L + 1) (p + g) (by omega) (by omega) (by omega) (by omega)
    rw [fL_bounds_c187_s, xr_n hr (by decide)]
    rw [hh, nI_add, if_neg (nI_nlt (by omega) (by omega)), xl_t, xl_t, ← nI_succ, ih, show L + 1 + d = L + (d + 1) by omega]
  | d, 0, _, _, h0, _, _, _ => absurd h0 (Nat.not_lt_zero _)
theorem P_b156 {σ : xSt} {r lo g : Nat} {a3 a5 : Int32} (hr : r < 4) (hh : σ 54 r = nI lo) (h1 : lo < 1000) (h3 : g < 10) : ∀ (d n F q : Nat), d < n → q + g * d < 2000000 → lo ≤ q + g * d → (d = 0 ∨ q + g * d < lo + g) → fL_bounds_c156 n (nI r) a3 a5 (nI g) (nI F) (nI q) σ = fL_bounds_c187 xFU (nI r) (nI g) (nI (F + d)) a5 a3 σ
  | 0, n + 1, F, q, _, h7, h4, _ => by
    rw [fL_bounds_c156_s, xr_n hr (by decide)]
    rw [hh, if_pos (nI_le (by omega) (by omega))]
    try rfl
  | d + 1, n + 1, F, q, h0, h7, h4, h5 => by
    have e : g * (d + 1) = g * d + g := Nat.mul_succ g d
    have ih := P_b156 (a3 := a3) (a5 := a5) hr hh h1 h3 d n (F + 1) (q + g) (by omega) (by omega) (by omega) (by omega)
    rw [fL_bounds_c156_s, xr_n hr (by decide)]
    rw [hh, if_neg (nI_ge (by omega) (by omega)), xl_t, xl_t, ← nI_succ, nI_add, ih, show F + 1 + d = F + (d + 1) by omega]
  | d, 0, _, _, h0, _, _, _ => absurd h0 (Nat.not_lt_zero _)
/-- a dough's first and last ticks -/
def pbd (s : sS) (k : Nat) : Option (Int32 × Int32) := if plF s k ≤ plL s k then some (Int32.ofInt (plF s k), Int32.ofInt (plL s k)) else none
theorem nI_Z {a : Nat} {z : Int} (ha : a < 2147483648) (h : z = (a : Int)) : Int32.ofInt z = nI a := by
  rw [h, ← nI_toInt ha, Int32.ofInt_toInt]
theorem gn_c (s : sS) : gn s = 0 ∨ gn s = nI 1 ∨ gn s = nI 2 ∨ gn s = nI 4 ∨ gn s = nI 6 ∨ gn s = nI 3 := by
  unfold gn
  generalize (s 1).toNatClampNeg = j
  by_cases h : j < 6
  · have : ∀ j, j < 6 → xPts j = 0 ∨ xPts j = nI 1 ∨ xPts j = nI 2 ∨ xPts j = nI 4 ∨ xPts j = nI 6 ∨ xPts j = nI 3 := by decide
    exact this j h
  · refine Or.inl ?_
    unfold xPts
    rw [List.getD_eq_getElem?_getD, List.getElem?_eq_none (by show 6 ≤ j; omega)]
    rfl
/-- the two loops, of a dough that rises -/
theorem P_rise {σ : xSt} {r lo hi g t p : Nat} (hr : r < 4) (hl : σ 54 r = nI lo) (hh : σ 55 r = nI hi) (h1 : lo ≤ 30) (h2 : hi ≤ 69) (hg : g = 1 ∨ g = 2 ∨ g = 4 ∨ g = 6 ∨ g = 3) (ht : t ≤ 100000) (hp : p ≤ hi) : fL_bounds_c156 xFU (nI r) (nI p) (nI t) (nI g) (nI t) (nI p) σ = some (if t + (lo - p + g - 1) / g ≤ t + (hi - p) / g then some (nI (t + (lo - p + g - 1) / g), nI (t + (hi - p) / g)) else none, σ) := by
  have x1 : (lo - p + g - 1) / g ≤ 35 ∧ g * ((lo - p + g - 1) / g) ≤ 200 ∧ lo ≤ p + g * ((lo - p + g - 1) / g) ∧ ((lo - p + g - 1) / g = 0 ∨ p + g * ((lo - p + g - 1) / g) < lo + g) := by
    rcases hg with rfl | rfl | rfl | rfl | rfl <;> omega
  have x2 : (hi - p) / g ≤ 69 ∧ p + g * ((hi - p) / g) ≤ hi ∧ hi < p + g * ((hi - p) / g) + g := by
    rcases hg with rfl | rfl | rfl | rfl | rfl <;> omega
  have g9 : g < 10 := by omega
  generalize (lo - p + g - 1) / g = d1 at x1 ⊢
  generalize (hi - p) / g = d2 at x2 ⊢
  have f1 : d1 < xFU := Nat.lt_of_lt_of_le (show d1 < 100 by omega) (by decide)
  have f2 : d2 < xFU := Nat.lt_of_lt_of_le (show d2 < 100 by omega) (by decide)
  rw [P_b156 hr hl (by omega) g9 d1 xFU t p f1 (by omega) x1.2.2.1 x1.2.2.2]
  exact P_b187 hr hh (by omega) (by omega) g9 d2 xFU t p f2 x2.2.1 x2.2.2 (by omega)
theorem pl_rise {s : sS} {k g t p lo hi : Nat} (g0 : s (163 + k) = 0) (hg : gn s = nI g) (hgg : g = 1 ∨ g = 2 ∨ g = 4 ∨ g = 6 ∨ g = 3) (z0 : (s 0).toInt = t) (zp : (s (143 + k)).toInt = p) (zlo : (s (25 + drc s k)).toInt = lo) (zhi : (s (31 + drc s k)).toInt = hi) (c : p ≤ hi) : plF s k = ((t + (lo - p + g - 1) / g : Nat) : Int) ∧ plL s k = ((t + (hi - p) / g : Nat) : Int) := by
  have zg : (gn s).toInt = g := by
    rw [hg]
    exact nI_toInt (by omega)
  have g1 : ¬ s (163 + k) = 1 := by
    rw [g0]
    decide
  have x1 : (0 : Int) ≤ (hi : Int) - (p : Int) := by omega
  have x2 : (0 : Int) < (g : Int) := by omega
  have x3 : (if (lo : Int) - (p : Int) < 0 then 0 else (lo : Int) - (p : Int)) + (g : Int) - 1 = ((lo - p + g - 1 : Nat) : Int) := by
    split <;> omega
  have x4 : (hi : Int) - (p : Int) = ((hi - p : Nat) : Int) := by omega
  unfold plF plL
  rw [zhi, zp, zlo, zg, z0, if_pos ⟨g0, x1, x2⟩, if_neg g1, if_pos g0, if_pos x1, if_pos x2, x3, x4]
  exact ⟨rfl, rfl⟩
theorem P_bounds {N : Nat} {σ : xSt} {H : List sS} {s : sS} {tx : (Nat → Int32) × Nat} (h : RX σ (H, s, tx)) (hG : GH N (H, s, tx)) {k : Nat} (hk : k < cD s) (w5 : σ 52 5 = s 1) (hr : drc s k < 4) (hc : Rc1 σ s (drc s k)) : ∃ σ', RX σ' (H, s, tx) ∧ kL σ σ' ∧ fL_bounds (nI k) σ = some (pbd s k, σ') := by
  have hI : Inv N s := hG.inv
  obtain ⟨a1, a2, a3, ⟨a4, a5⟩, a6, a7⟩ := hI.dough k hk
  have o := hI.oven
  obtain ⟨σ1, h1, k1, e1⟩ := P_doughAt h hG (k := k) (p := 0) hk (by omega)
  obtain ⟨σ2, h2, k2, e2⟩ := P_doughAt h1 hG (k := k) (p := 2) hk (by omega)
  obtain ⟨σ3, h3, k3, e3⟩ := P_doughAt h2 hG (k := k) (p := 3) hk (by omega)
  have e1 : ∀ {β : Type} (K : Int32 → xSt → Option β), xco (fX11_doughAt (nI k) 0 σ) σ K = K (s (103 + k)) σ1 := e1
  have e2 : ∀ {β : Type} (K : Int32 → xSt → Option β), xco (fX11_doughAt (nI k) 2 σ1) σ1 K = K (s (143 + k)) σ2 := e2
  have e3 : ∀ {β : Type} (K : Int32 → xSt → Option β), xco (fX11_doughAt (nI k) 3 σ2) σ2 K = K (s (163 + k)) σ3 := e3
  have e4 : ∀ {β : Type} (K : Int32 → xSt → Option β), xcm (fX11_now σ3) σ3 K = K (s 0) σ3 := P_now h3
  have kk : kL σ σ3 := (k1.tr k2).tr k3
  have t0 : s 0 = nI (s 0).toNatClampNeg := bt_nI o.1 (by decide)
  have t0b := bt_cl o.1 (by decide)
  have t1 : s 1 = nI (s 1).toNatClampNeg := bt_nI o.2.1 (by decide)
  have t1b := bt_cl o.2.1 (by decide)
  have p0 : s (143 + k) = nI (s (143 + k)).toNatClampNeg := bt_nI a5 (by decide)
  have p0b := bt_cl a5 (by decide)
  have w3 : σ3 52 5 = nI (s 1).toNatClampNeg := by rw [kk 52 (by omega), w5]; exact t1
  have r1 : s (103 + k) = nI (drc s k) := a1
  have eg : xPts (s 1).toNatClampNeg = gn s := rfl
  obtain ⟨lo, hi, al, w, pp, pv, ⟨c1, c2, c3, c4⟩, ⟨d1, d2, d3, d4, d5, d6, d7⟩, q1, q2, q3, q4, q5, q6⟩ := hc
  have c1' : σ3 54 (drc s k) = nI lo := by rw [kk 54 (by omega)]; exact c1
  have c2' : σ3 55 (drc s k) = nI hi := by rw [kk 55 (by omega)]; exact c2
  generalize (s 0).toNatClampNeg = t at t0 t0b
  generalize (s (143 + k)).toNatClampNeg = p at p0 p0b
  have z0 : (s 0).toInt = t := by rw [t0]; exact nI_toInt (by omega)
  have zp : (s (143 + k)).toInt = p := by rw [p0]; exact nI_toInt (by omega)
  have zlo : (s (25 + drc s k)).toInt = lo := by rw [d2]; exact nI_toInt (by omega)
  have zhi : (s (31 + drc s k)).toInt = hi := by rw [d3]; exact nI_toInt (by omega)
  have zw : (s (49 + drc s k)).toInt = w := by rw [d6]; exact nI_toInt (by omega)
  unfold fL_bounds
  rw [e1, e2, e3, e4, w3, xrs_n (by omega) (by decide)]
  rw [eg, r1]
  by_cases g1 : s (163 + k) = 1
  · obtain ⟨σ4, h4, k4, e5⟩ := P_doughAt5 h3 hG (k := k) hk
    have e5 : ∀ {β : Type} (K : Int32 → xSt → Option β), xco (fX11_doughAt (nI k) 5 σ3) σ3 K = K (s (183 + k)) σ4 := e5
    have c4' : σ4 56 (drc s k) = nI w := by rw [k4 56 (by omega), kk 56 (by omega)]; exact c4
    have a4' := a4
    unfold bt at a4'
    have zs : (s (183 + k) + nI w).toInt = (s (183 + k)).toInt + w := by
      have h9 : (nI w).toInt = w := nI_toInt (by omega)
      rw [i32_add] <;> rw [h9] <;> omega
    have eF : plF s k = t := by
      unfold plF
      rw [if_neg (fun h9 => absurd (g1.symm.trans h9.1) (by decide)), z0]
    have eL : plL s k = (s (183 + k) + nI w).toInt := by
      unfold plL
      rw [if_pos g1, zw, zs]
    refine ⟨σ4, h4, kk.tr k4, ?_⟩
    rw [if_pos g1, e5, xr_n hr (by decide)]
    rw [c4', xl_t]
    unfold pbd
    rw [eF, eL, Int32.ofInt_toInt, nI_Z (show t < 2147483648 by omega) rfl, t0]
    by_cases c : nI t ≤ s (183 + k) + nI w
    · rw [if_pos c, if_pos]
      rw [fa_le, nI_toInt (by omega)] at c
      exact c
    · rw [if_neg c, if_neg]
      rw [fa_le, nI_toInt (by omega)] at c
      exact c
  · rw [if_neg g1]
    by_cases g0 : s (163 + k) = 0
    · rw [if_pos g0, xr_n hr (by decide)]
      rw [c2', p0, t0]
      have key : ∀ g : Nat, (g = 1 ∨ g = 2 ∨ g = 4 ∨ g = 6 ∨ g = 3) → gn s = nI g → p ≤ hi → (0 : Int) ≤ (hi : Int) - (p : Int) → ∃ σ', RX σ' (H, s, tx) ∧ kL σ σ' ∧ (if gn s = 0 then xr σ3 54 4 (nI (drc s k)) fun v11 => if v11 ≤ nI p then some (some (nI t, (1000000 : Int32)), σ3) else some (none, σ3) else fL_bounds_c156 xFU (nI (drc s k)) (nI p) (nI t) (gn s) (nI t) (nI p) σ3) = some (pbd s k, σ') := by
        intro g hgg hg c x1
        obtain ⟨eF, eL⟩ := pl_rise g0 hg hgg z0 zp zlo zhi c
        have nz : ¬ nI g = 0 := fun h9 => by
          have := (nI_eq (a := g) (b := 0) (by omega) (by omega)).mp h9
          omega
        refine ⟨σ3, h3, kk, ?_⟩
        rw [hg, if_neg nz, P_rise hr c1' c2' (by omega) (by omega) hgg (by omega) c]
        unfold pbd
        rw [eF, eL]
        by_cases c6 : t + (lo - p + g - 1) / g ≤ t + (hi - p) / g
        · have b1 : t + (lo - p + g - 1) / g < 2147483648 := by
            have := Nat.div_le_self (lo - p + g - 1) g
            omega
          have b2 : t + (hi - p) / g < 2147483648 := by
            have := Nat.div_le_self (hi - p) g
            omega
          rw [if_pos c6, if_pos (Int.ofNat_le.mpr c6), nI_Z b1 rfl, nI_Z b2 rfl]
        · rw [if_neg c6, if_neg (fun h9 => c6 (Int.ofNat_le.mp h9))]
      by_cases c : p ≤ hi
      · have x1 : (0 : Int) ≤ (hi : Int) - (p : Int) := by omega
        rw [if_pos (nI_le c (by omega))]
        rcases gn_c s with hg | hg | hg | hg | hg | hg
        · rw [if_pos hg, xr_n hr (by decide)]
          have g9 : ¬ (0 : Int) < (gn s).toInt := by rw [hg]; decide
          have eF : plF s k = t := by
            unfold plF
            rw [if_neg (fun h9 => g9 h9.2.2), z0]
          have eL : plL s k = if (lo : Int) - (p : Int) ≤ 0 then 1000000 else -1 := by
            unfold plL
            rw [if_neg g1, if_pos g0, zhi, zp, if_pos x1, if_neg g9, zlo]
          refine ⟨σ3, h3, kk, ?_⟩
          rw [c1']
          unfold pbd
          rw [eF, eL]
          by_cases c5 : lo ≤ p
          · rw [if_pos (nI_le c5 (by omega)), if_pos (show (lo : Int) - (p : Int) ≤ 0 by omega), if_pos (by omega), nI_Z (show t < 2147483648 by omega) rfl, show Int32.ofInt 1000000 = 1000000 by decide]
            try rfl
          · rw [if_neg (nI_ge (by omega) (by omega)), if_neg (show ¬ (lo : Int) - (p : Int) ≤ 0 by omega), if_neg (by omega)]
        all_goals first
          | exact key 1 (Or.inl rfl) hg c x1
          | exact key 2 (Or.inr (Or.inl rfl)) hg c x1
          | exact key 4 (Or.inr (Or.inr (Or.inl rfl))) hg c x1
          | exact key 6 (Or.inr (Or.inr (Or.inr (Or.inl rfl)))) hg c x1
          | exact key 3 (Or.inr (Or.inr (Or.inr (Or.inr rfl)))) hg c x1
      · refine ⟨σ3, h3, kk, ?_⟩
        have x1 : ¬ (0 : Int) ≤ (hi : Int) - (p : Int) := by omega
        have eF : plF s k = t := by
          unfold plF
          rw [zhi, zp, if_neg (fun h9 => x1 h9.2.1), z0]
        have eL : plL s k = -1 := by
          unfold plL
          rw [if_neg g1, if_pos g0, zhi, zp, if_neg x1]
        rw [if_neg (nI_ge (by omega) (by omega))]
        unfold pbd fL_bounds_c114
        rw [eF, eL, if_neg (by omega)]
    · rw [if_neg g0]
      refine ⟨σ3, h3, kk, ?_⟩
      have eF : plF s k = t := by
        unfold plF
        rw [if_neg (fun h9 => g0 h9.1), z0]
      have eL : plL s k = -1 := by
        unfold plL
        rw [if_neg g1, if_neg g0]
      unfold pbd fL_bounds_c114
      rw [eF, eL, if_neg (by omega)]
