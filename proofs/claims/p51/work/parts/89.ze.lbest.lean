/-! isBest: no number has a lesser loss -/
theorem bst_least (s : sS) (r : Nat) (over under : Int32) : ∀ n, n < 1000 → ∃ j, j ≤ n ∧ bst s r over under n = nI j ∧ ∀ k, k ≤ n → ¬ lsv s r (nI k) over under < lsv s r (nI j) over under ∧ (k < j → ¬ lsv s r (nI k) over under = lsv s r (nI j) over under)
  | 0, _ => ⟨0, Nat.le_refl _, rfl, fun k hk => by
    have e : k = 0 := by omega
    rw [e]
    refine ⟨fun h9 => ?_, fun h9 => absurd h9 (Nat.not_lt_zero _)⟩
    rw [fa_lt] at h9
    omega⟩
  | n + 1, hn => by
    obtain ⟨j, h1, h2, h3⟩ := bst_least s r over under n (by omega)
    have e : bst s r over under (n + 1) = if lsv s r (bst s r over under n) over under ≤ lsv s r (nI (n + 1)) over under then bst s r over under n else nI (n + 1) := rfl
    rw [h2] at e
    by_cases c : lsv s r (nI j) over under ≤ lsv s r (nI (n + 1)) over under
    · rw [if_pos c] at e
      refine ⟨j, by omega, e, fun k hk => ?_⟩
      by_cases ck : k = n + 1
      · rw [ck]
        refine ⟨fun h9 => ?_, fun h9 => absurd h9 (by omega)⟩
        rw [fa_lt] at h9
        rw [fa_le] at c
        omega
      · exact h3 k (by omega)
    · rw [if_neg c] at e
      refine ⟨n + 1, Nat.le_refl _, e, fun k hk => ?_⟩
      by_cases ck : k = n + 1
      · rw [ck]
        refine ⟨fun h9 => ?_, fun h9 => absurd h9 (by omega)⟩
        rw [fa_lt] at h9
        omega
      · obtain ⟨g1, g2⟩ := h3 k (by omega)
        rw [fa_le] at c
        rw [fa_lt] at g1
        refine ⟨fun h9 => ?_, fun _ h9 => ?_⟩
        · rw [fa_lt] at h9
          omega
        · rw [h9] at g1
          omega
theorem P_loss {N : Nat} {σ : xSt} {H : List sS} {s : sS} {tx : (Nat → Int32) × Nat} (h : RX σ (H, s, tx)) (hI : Inv N s) {r k x y : Nat} (hr : r < cR s) (hk : k ≤ 99) (hx : x ≤ 99) (hy : y ≤ 99) : ∃ σ', RX σ' (H, s, tx) ∧ kL σ σ' ∧ ∀ {β : Type} (K : Int32 → xSt → Option β), xco (fX11_loss (nI r) (nI k) (nI x) (nI y) σ) σ K = K (lsv s r (nI k) (nI x) (nI y)) σ' := by
  have hcR := hI.caps.1
  refine P_ask (X_loss h hI _ _ _ _) ?_
  unfold sp_loss
  have h1 : 0 ≤ nI r ∧ nI r ≤ (H, s, tx).2.1 5 - 1 := r_in hI.caps hr
  rw [if_pos h1, if_pos ⟨nI_pos' (by omega), nI_le (b := 99) hk (by decide)⟩, if_pos ⟨nI_pos' (by omega), nI_le (b := 99) hx (by decide)⟩, if_pos ⟨nI_pos' (by omega), nI_le (b := 99) hy (by decide)⟩, nI_clamp (show r < 2 ^ 31 by omega)]
theorem P_bestNumber {N : Nat} {σ : xSt} {H : List sS} {s : sS} {tx : (Nat → Int32) × Nat} (h : RX σ (H, s, tx)) (hI : Inv N s) {r x y : Nat} (hr : r < cR s) (hx : x ≤ 99) (hy : y ≤ 99) (hn : 0 < cN s r) : ∃ σ', RX σ' (H, s, tx) ∧ kL σ σ' ∧ ∀ {β : Type} (K : Int32 → xSt → Option β), xco (fX11_bestNumber (nI r) (nI x) (nI y) σ) σ K = K (bst s r (nI x) (nI y) 99) σ' := by
  have hcR := hI.caps.1
  have h60 := hI.caps.2.2.2.1 r (by omega)
  have e9 : s (259 + r) = nI (cN s r) := hI.caps.2.2.2.2.2.2.2.2 r (by omega)
  refine P_ask (X_bestNumber h hI _ _ _) ?_
  unfold sp_bestNumber
  have h1 : 0 ≤ nI r ∧ nI r ≤ (H, s, tx).2.1 5 - 1 := r_in hI.caps hr
  have h2 : ¬ (H, s, tx).2.1 (259 + r) ≤ 0 := by
    show ¬ s (259 + r) ≤ 0
    rw [e9]
    exact nI_ge (a := 0) (by omega) (by omega)
  rw [if_pos h1, if_pos ⟨nI_pos' (by omega), nI_le (b := 99) hx (by decide)⟩, if_pos ⟨nI_pos' (by omega), nI_le (b := 99) hy (by decide)⟩, nI_clamp (show r < 2 ^ 31 by omega), if_neg h2]
def BS (s s' : sS) : Prop := ∀ q, (q < 259 ∨ 625 ≤ q) → s' q = s q
theorem P_note {N : Nat} {σ : xSt} {H : List sS} {s : sS} {tx : (Nat → Int32) × Nat} (h : RX σ (H, s, tx)) (hG : GH N (H, s, tx)) {r v : Nat} (hr : r < cR s) (hn : cN s r < 60) (hv : v ≤ 99) : ∃ σ' s', RX σ' (kp H s, s', tx) ∧ GH (N + 1) (kp H s, s', tx) ∧ BS s s' ∧ cN s' r = cN s r + 1 ∧ kL σ σ' ∧ ∀ {β : Type} (K : Int32 → xSt → Option β), xco (fX11_note (nI r) (nI v) σ) σ K = K (nI (cN s r + 1)) σ' := by
  have hI : Inv N s := hG.inv
  have hcR := hI.caps.1
  have e9 : s (259 + r) = nI (cN s r) := hI.caps.2.2.2.2.2.2.2.2 r (by omega)
  have h1 : 0 ≤ nI r ∧ nI r ≤ (H, s, tx).2.1 5 - 1 := r_in hI.caps hr
  have h2 : ¬ (60 : Int32) ≤ (H, s, tx).2.1 (259 + r) := by
    show ¬ (60 : Int32) ≤ s (259 + r)
    rw [e9]
    exact nI_ge (b := 60) hn (by decide)
  have e : sp_note (nI r) (nI v) (H, s, tx) = (.inl (nI (cN s r + 1)), (kp H s, upd (upd s (265 + (60 * r + cN s r)) (nI v)) (259 + r) (nI (cN s r + 1)), tx)) := by
    unfold sp_note
    rw [if_pos h1, if_pos ⟨nI_pos' (by omega), nI_le (b := 99) hv (by decide)⟩, nI_clamp (show r < 2 ^ 31 by omega), if_neg h2]
  obtain ⟨σ', g1, g2, g3, g4⟩ := P_op (X_note h hI.caps hG.cles (nI r) (nI v)) (G_note hG (nI r) (nI v)).1 e
  refine ⟨σ', _, g1, g2, fun q hq => ?_, ?_, g3, g4⟩
  · rw [upd_ne _ _ (by omega), upd_ne _ _ (by omega)]
  · show (upd (upd s (265 + (60 * r + cN s r)) (nI v)) (259 + r) (nI (cN s r + 1)) (259 + r)).toNatClampNeg = _
    rw [upd_at]
    exact nI_clamp (show cN s r + 1 < 2 ^ 31 by omega)
theorem P_c106 {N r x y j : Nat} {H : List sS} {s : sS} {tx : (Nat → Int32) × Nat} (hI : Inv N s) (hr : r < cR s) (hx : x ≤ 99) (hy : y ≤ 99) (hj : j ≤ 99) (hb : ∀ k, k ≤ 99 → ¬ lsv s r (nI k) (nI x) (nI y) < lsv s r (nI j) (nI x) (nI y) ∧ (k < j → ¬ lsv s r (nI k) (nI x) (nI y) = lsv s r (nI j) (nI x) (nI y))) : ∀ (n k : Nat) (σ : xSt), k < 104 → 0 < n → 101 ≤ n + k → RX σ (H, s, tx) → ∃ σ', RX σ' (H, s, tx) ∧ kX σ σ' ∧ fL_isBest_c106 n (nI r) (nI x) (nI y) (nI j) (lsv s r (nI j) (nI x) (nI y)) (nI k) σ = some (1, σ')
  | 0, k, σ, _, h1, _, _ => absurd h1 (Nat.not_lt_zero _)
  | n + 1, k, σ, h0, _, h1, h => by
    by_cases c : 100 ≤ k
    · refine ⟨σ, h, fun _ _ _ => rfl, ?_⟩
      rw [fL_isBest_c106_s]
      exact if_pos (nI_le (a := 100) c (by omega))
    · obtain ⟨σ1, h2, k1, e1⟩ := P_loss h hI (r := r) (k := k) (x := x) (y := y) hr (by omega) hx hy
      obtain ⟨b1, b2⟩ := hb k (by omega)
      obtain ⟨z, σ2, hz, e2, k2⟩ := P_nx σ1 (n := 3) (by omega) (by omega)
      have e2 : fX12_next 3 σ1 = some (nI z, σ2) := e2
      have a1 : 1 + nI z = nI (z + 1) := by
        rw [Int32.add_comm]
        exact (Int32.ofNat_add z 1).symm
      obtain ⟨σ3, h3, k3, e3⟩ := P_c106 hI hr hx hy hj hb n (k + (z + 1)) σ2 (by omega) (by omega) (by omega) (k53.RX k2 h2)
      have st : fL_isBest_c150 (fL_isBest_c106 n) (nI r) (nI x) (nI y) (nI j) (lsv s r (nI j) (nI x) (nI y)) (nI k) σ1 = some (1, σ3) := by
        unfold fL_isBest_c150
        rw [xc2_s e2, xl_t, a1, nI_add]
        exact e3
      refine ⟨σ3, h3, (k1.x.tr k2.x).tr k3, ?_⟩
      rw [fL_isBest_c106_s, if_neg (show ¬ (100 : Int32) ≤ nI k from nI_ge (b := 100) (by omega) (by decide)), e1, if_neg b1]
      by_cases c2 : j ≤ k
      · rw [if_pos (nI_le c2 (by omega))]
        exact st
      · rw [if_neg (nI_ge (by omega) (by omega)), if_neg (b2 (by omega))]
        exact st
theorem P_c24 {R : Nat} {tx : (Nat → Int32) × Nat} {r : Nat} : ∀ (m n N : Nat) (σ : xSt) (H : List sS) (s : sS), m < n → N + m ≤ 990 → RX σ (H, s, tx) → GH N (H, s, tx) → r < cR s → 1 ≤ cN s r + m → cN s r + m ≤ 60 → ∃ σ' H' s', RX σ' (H', s', tx) ∧ GH (N + m) (H', s', tx) ∧ BS s s' ∧ kX σ σ' ∧ fL_isBest_c24 n (nI r) (nI m) σ = some (1, σ')
  | 0, n + 1, N, σ, H, s, _, _, h, hG, hr, hn1, hn2 => by
    have hI : Inv N s := hG.inv
    obtain ⟨x, σ1, hx, e1, k1⟩ := P_nx σ (n := 10) (by omega) (by omega)
    have e1 : fX12_next 10 σ = some (nI x, σ1) := e1
    obtain ⟨y, σ2, hy, e2, k2⟩ := P_nx σ1 (n := 20) (by omega) (by omega)
    have e2 : fX12_next 20 σ1 = some (nI y, σ2) := e2
    obtain ⟨σ3, h3, k3, e3⟩ := P_bestNumber (k53.RX k2 (k53.RX k1 h)) hI (r := r) (x := x) (y := y) hr (by omega) (by omega) (by omega)
    obtain ⟨j, j1, j2, j3⟩ := bst_least s r (nI x) (nI y) 99 (by omega)
    rw [j2] at e3
    obtain ⟨σ4, h4, k4, e4⟩ := P_loss h3 hI (r := r) (k := j) (x := x) (y := y) hr j1 (by omega) (by omega)
    obtain ⟨σ5, h5, k5, e5⟩ := P_c106 (j := j) hI hr (show x ≤ 99 by omega) (show y ≤ 99 by omega) j1 j3 xF101 0 σ4 (by omega) (by have h9 : xF101 = 101 := rfl; omega) (by have h9 : xF101 = 101 := rfl; omega) h4
    refine ⟨σ5, H, s, h5, hG, fun _ _ => rfl, (((k1.x.tr k2.x).tr k3.x).tr k4.x).tr k5, ?_⟩
    rw [fL_isBest_c24_s, if_pos (by decide), xc2_s e1, xc2_s e2, e3, e4]
    exact e5
  | m + 1, n + 1, N, σ, H, s, hn, hNm, h, hG, hr, hn1, hn2 => by
    obtain ⟨v, σ1, hv, e1, k1⟩ := P_nx σ (n := 100) (by omega) (by omega)
    have e1 : fX12_next 100 σ = some (nI v, σ1) := e1
    obtain ⟨σ2, s2, h2, g2, b2, c2, k2, e2⟩ := P_note (k53.RX k1 h) hG (r := r) (v := v) hr (by omega) (by omega)
    have cr : cR s2 = cR s := by
      unfold cR
      rw [b2 5 (by omega)]
    obtain ⟨σ3, H3, s3, h3, g3, b3, k3, e3⟩ := P_c24 (R := R) (r := r) m n (N + 1) σ2 (kp H s) s2 (by omega) (by omega) h2 g2 (by omega) (by omega) (by omega)
    refine ⟨σ3, H3, s3, h3, g3.le (by omega), fun q hq => (b3 q hq).trans (b2 q hq), (k1.x.tr k2.x).tr k3, ?_⟩
    rw [fL_isBest_c24_s, if_neg (show ¬ nI (m + 1) ≤ 0 from nI_ge (a := 0) (by omega) (by omega)), xc2_s e1, e2, if_pos (show (1 : Int32) ≤ nI (cN s r + 1) from nI_le (a := 1) (by omega) (by omega)), xl_t, nI_negsub]
    exact e3
  | _, 0, _, _, _, _, h0, _, _, _, _, _, _ => absurd h0 (Nat.not_lt_zero _)
theorem P_isBest {N R : Nat} {σ : xSt} {H : List sS} {s : sS} {tx : (Nat → Int32) × Nat} (h : RX σ (H, s, tx)) (hG : GH N (H, s, tx)) (hN : N ≤ 980) (w : LW R σ s) (hz : ∀ r, r < R → cN s r = 0) : ∃ σ' H' s', RX σ' (H', s', tx) ∧ GH (N + 6) (H', s', tx) ∧ BS s s' ∧ LW R σ' s' ∧ fL_isBest σ = some (1, σ') := by
  obtain ⟨r, σ1, hr, e1, k1⟩ := P_nx σ (n := R) w.2.1.1 (by have := w.2.1; omega)
  obtain ⟨y, σ2, hy, e2, k2⟩ := P_nx σ1 (n := 6) (by omega) (by omega)
  have e2 : fX12_next 6 σ1 = some (nI y, σ2) := e2
  have a1 : 1 + nI y = nI (y + 1) := by
    rw [Int32.add_comm]
    exact (Int32.ofNat_add y 1).symm
  have z := hz r hr
  obtain ⟨σ3, H3, s3, h3, g3, b3, k3, e3⟩ := P_c24 (R := R) (r := r) (y + 1) xF8 N σ2 H s (by have h9 : xF8 = 8 := rfl; omega) (by omega) (k53.RX k2 (k53.RX k1 h)) hG (by rw [← w.2.1.2.2]; exact hr) (by omega) (by omega)
  refine ⟨σ3, H3, s3, h3, g3.le (by omega), b3, w.act ((k1.x.tr k2.x).tr k3) (fun q hq => b3 q (by omega)), ?_⟩
  unfold fL_isBest
  rw [w.1.1, xc2_s e1, xc2_s e2, xl_t, a1]
  exact e3
