/-! isEvening: an act of the evening, whole -/
theorem lg_self (x : Int64) : lg_cmp x x = 0 := (lg_cmp_eq x x).mpr rfl
theorem P_c168 {N R : Nat} {σ : xSt} {H : List sS} {s s' : sS} {tx : (Nat → Int32) × Nat} (h : RX σ (kp H s, s', tx)) (hG : GH N (kp H s, s', tx)) (hs : Inv N s) (e : ES s s') : ∃ σ' H' s'', RX σ' (H', s'', tx) ∧ GH (N + 1) (H', s'', tx) ∧ ES s s'' ∧ kX σ σ' ∧ ∀ (k11 : Int32 → xSt → Option (Int32 × xSt)) (m : Nat), fL_isEvening_c168 k11 (nI (m + 1)) (ck3 s (4 * cR s)) σ = k11 (nI m) σ' := by
  have n1 : ¬ (1 : Int32) = 0 := by decide
  obtain ⟨σ1, e1, h1, k1⟩ := P_isKept h hG.inv
  obtain ⟨y, σ2, hy, e2, k2⟩ := P_nx σ1 (n := 3) (by omega) (by omega)
  have e2 : fX12_next 3 σ1 = some (nI y, σ2) := e2
  have h2 := k53.RX k2 h1
  by_cases c : nI y = 0
  · obtain ⟨σ3, H3, v, h3, g3, k3, v3, e3⟩ := P_undo h2 hG
    obtain ⟨σ4, e4, h4, k4⟩ := P_isKept h3 g3.inv
    refine ⟨σ4, H3, s, h4, g3, ES.rf, (k1.x.tr k2.x).tr (k3.x.tr k4.x), fun k11 m => ?_⟩
    unfold fL_isEvening_c168
    rw [xc2_s e1, if_neg n1, xc2_s e2, if_pos c, e3, if_neg v3, P_checksum h3 g3.inv, lg_self, if_pos rfl, xc2_s e4, if_neg n1, xl_t, nI_negsub]
  · refine ⟨σ2, kp H s, s', h2, hG.succ, e, k1.x.tr k2.x, fun k11 m => ?_⟩
    unfold fL_isEvening_c168
    rw [xc2_s e1, if_neg n1, xc2_s e2, if_neg c, xl_t, nI_negsub]
theorem P_c116 {N R : Nat} {σ : xSt} {H : List sS} {s : sS} {tx : (Nat → Int32) × Nat} (h : RX σ (H, s, tx)) (hG : GH N (H, s, tx)) (hN : N ≤ 990) {r : Nat} (hr : r < cR s) : ∃ σ' H' s', RX σ' (H', s', tx) ∧ GH (N + 2) (H', s', tx) ∧ ES s s' ∧ kX σ σ' ∧ ∀ (k11 : Int32 → xSt → Option (Int32 × xSt)) (m : Nat), fL_isEvening_c116 k11 (nI (m + 1)) (nI r) (ck3 s (4 * cR s)) σ = k11 (nI m) σ' := by
  have hI : Inv N s := hG.inv
  obtain ⟨y, σ1, hy, e1, k1⟩ := P_nx σ (n := 3) (by omega) (by omega)
  have e1 : fX12_next 3 σ = some (nI y, σ1) := e1
  have h1 := k53.RX k1 h
  by_cases c : nI y = 0
  · obtain ⟨σ2, s2, v, h2, g2, es, k2, v2, e2⟩ := P_crumble h1 hG (by omega) hr
    obtain ⟨σ3, H3, s3, h3, g3, es3, k3, e3⟩ := P_c168 (R := R) h2 g2 (hI.mono (by omega)) es
    refine ⟨σ3, H3, s3, h3, g3, es3, (k1.x.tr k2.x).tr k3, fun k11 m => ?_⟩
    unfold fL_isEvening_c116
    rw [xc2_s e1, if_pos c, e2, if_pos v2]
    exact e3 k11 m
  · obtain ⟨σ2, s2, v, h2, g2, es, k2, v2, z2, e2⟩ := P_endDay h1 hG (by omega)
    have hr2 : r < cR s2 := by
      have : cR s2 = cR s := by
        unfold cR
        rw [es 5 (by omega) (by omega) (by omega) (by omega)]
      omega
    obtain ⟨σ4, h4, k4, e4⟩ := P_breads h2 g2.inv (r := r) (a := 0) hr2 (by omega)
    have e4 : ∀ {β : Type} (K : Int32 → xSt → Option β), xco (fX11_breads (nI r) 0 σ2) σ2 K = K (s2 (223 + (4 * r + 0))) σ4 := e4
    obtain ⟨σ3, H3, s3, h3, g3, es3, k3, e3⟩ := P_c168 (R := R) h4 g2 (hI.mono (by omega)) es
    refine ⟨σ3, H3, s3, h3, g3, es3, ((k1.x.tr k2.x).tr k4.x).tr k3, fun k11 m => ?_⟩
    unfold fL_isEvening_c116
    rw [xc2_s e1, if_neg c, e2, if_neg v2, e4, if_pos (z2 r hr)]
    exact e3 k11 m
theorem P_eve32 {N R : Nat} {tx : (Nat → Int32) × Nat} {H : List sS} {s : sS} (hG : GH N (H, s, tx)) (hN : N ≤ 990) {r : Nat} (hr : r < cR s) : ∀ (d i n : Nat) (σ : xSt), i + d = 4 → d < n → RX σ (H, s, tx) → ∃ σ' H' s', RX σ' (H', s', tx) ∧ GH (N + 2) (H', s', tx) ∧ ES s s' ∧ kX σ σ' ∧ ∀ (k11 : Int32 → xSt → Option (Int32 × xSt)) (m : Nat), fL_isEvening_c32 k11 n (nI (m + 1)) (nI r) (s32 (fun j => s (223 + (4 * r + (0 + j)))) i) (nI i) σ = k11 (nI m) σ' := by
  have hI : Inv N s := hG.inv
  have hcR := hI.caps.1
  intro d
  induction d with
  | zero =>
    intro i n σ hi hn h
    match n, hn with
    | n + 1, _ =>
      obtain rfl : i = 4 := by omega
      have eb : s32 (fun j => s (223 + (4 * r + (0 + j)))) 4 = brs s r 0 := rfl
      rw [eb]
      obtain ⟨σa, Ha, sa, ha, ga, esa, ka, ea⟩ := P_c116 (R := R) h hG hN hr
      by_cases c : brs s r 0 ≤ 0
      · refine ⟨σa, Ha, sa, ha, ga, esa, ka, fun k11 m => ?_⟩
        rw [fL_isEvening_c32_s, if_pos (by decide), P_checksum h hI, if_pos c]
        exact ea k11 m
      · have cp : 0 < (brs s r 0).toInt := by
          rw [fa_le] at c
          have z : (0 : Int32).toInt = 0 := rfl
          omega
        obtain ⟨A, hA, A1, A2⟩ : ∃ A : Nat, brs s r 0 = nI A ∧ 1 ≤ A ∧ A < 2147483648 := by
          refine ⟨(brs s r 0).toInt.toNat, nI_ofZ rfl (by omega), by omega, ?_⟩
          have := (brs s r 0).toInt_lt
          omega
        obtain ⟨y, σ1, hy, e1, k1⟩ := P_nx σ (n := 2) (by omega) (by omega)
        have e1 : fX12_next 2 σ = some (nI y, σ1) := e1
        have h1 := k53.RX k1 h
        by_cases c2 : nI y = 0
        · obtain ⟨p, σ2, hp, e2, k2⟩ := P_nx σ1 (n := if 99 < A then 99 else A) (by split <;> omega) (by split <;> omega)
          have e2 : fX12_next (nI (if 99 < A then 99 else A)) σ1 = some (nI p, σ2) := e2
          have ev : (if (99 : Int32) < nI A then (99 : Int32) else nI A) = nI (if 99 < A then 99 else A) := by
            by_cases c3 : 99 < A
            · rw [if_pos c3, if_pos (show (99 : Int32) < nI A from nI_lt (a := 99) c3 (by omega))]
              rfl
            · rw [if_neg c3, if_neg (show ¬ (99 : Int32) < nI A from nI_nlt (a := 99) (b := A) (by omega) (by omega))]
          have hp2 : p + 1 ≤ 99 ∧ p + 1 ≤ A := by
            split at hp <;> omega
          have a1 : 1 + nI p = nI (p + 1) := by
            rw [Int32.add_comm]
            exact (Int32.ofNat_add p 1).symm
          obtain ⟨σ3, s3, v, h3, g3, es, k3, v3, e3⟩ := P_sell (k53.RX k2 h1) hG (by omega) hr (p := p + 1) (by omega) (by rw [hA]; exact nI_nlt hp2.2 (by omega))
          obtain ⟨σ4, H4, s4, h4, g4, es4, k4, e4⟩ := P_c168 (R := R) h3 g3 (hI.mono (by omega)) es
          refine ⟨σ4, H4, s4, h4, g4, es4, ((k1.x.tr k2.x).tr k3.x).tr k4, fun k11 m => ?_⟩
          rw [fL_isEvening_c32_s, if_pos (by decide), P_checksum h hI, if_neg c, xc2_s e1, if_pos c2, hA, xl_t, ev, xc2_s e2, xl_t, a1, e3, if_pos v3]
          exact e4 k11 m
        · obtain ⟨σb, Hb, sb, hb, gb, esb, kb, eb2⟩ := P_c116 (R := R) h1 hG hN hr
          refine ⟨σb, Hb, sb, hb, gb, esb, k1.x.tr kb, fun k11 m => ?_⟩
          rw [fL_isEvening_c32_s, if_pos (by decide), P_checksum h hI, if_neg c, xc2_s e1, if_neg c2]
          exact eb2 k11 m
  | succ d ih =>
    intro i n σ hi hn h
    match n, hn with
    | n + 1, hn =>
      obtain ⟨σ1, h1, k1, e1⟩ := P_breads h hI (r := r) (a := i) hr (by omega)
      obtain ⟨σ2, H2, s2, h2, g2, es, k2, e2⟩ := ih (i + 1) n σ1 (by omega) (by omega) h1
      refine ⟨σ2, H2, s2, h2, g2, es, k1.x.tr k2, fun k11 m => ?_⟩
      have e3 : s32 (fun j => s (223 + (4 * r + (0 + j)))) i + s (223 + (4 * r + i)) = s32 (fun j => s (223 + (4 * r + (0 + j)))) (i + 1) := by
        show _ = s32 (fun j => s (223 + (4 * r + (0 + j)))) i + s (223 + (4 * r + (0 + i)))
        rw [Nat.zero_add]
      rw [fL_isEvening_c32_s, if_neg (show ¬ (4 : Int32) ≤ nI i from nI_ge (b := 4) (by omega) (by decide)), e1, xl_t, xl_t, e3, ← nI_succ]
      exact e2 k11 m
theorem P_eveLoop {R : Nat} {tx : (Nat → Int32) × Nat} : ∀ (m n N : Nat) (σ : xSt) (H : List sS) (s : sS), m < n → N + 2 * m ≤ 990 → RX σ (H, s, tx) → GH N (H, s, tx) → LW R σ s → ∃ σ' H' s', RX σ' (H', s', tx) ∧ GH (N + 2 * m) (H', s', tx) ∧ ES s s' ∧ LW R σ' s' ∧ fL_isEvening_c11 n (nI m) σ = some (1, σ')
  | 0, n + 1, N, σ, H, s, _, _, h, hG, w => by
    refine ⟨σ, H, s, h, hG, ES.rf, w, ?_⟩
    rw [fL_isEvening_c11_s]
    exact if_pos (by decide)
  | m + 1, n + 1, N, σ, H, s, hn, hNm, h, hG, w => by
    obtain ⟨r, σ1, hr, e1, k1⟩ := P_nx σ (n := R) w.2.1.1 (by have := w.2.1; omega)
    obtain ⟨σ2, H2, s2, h2, g2, es2, k2, e2⟩ := P_eve32 (R := R) hG (by omega) (r := r) (by rw [← w.2.1.2.2]; exact hr) 4 0 xF5 σ1 (by omega) (by have h9 : xF5 = 5 := rfl; omega) (k53.RX k1 h)
    obtain ⟨σ3, H3, s3, h3, g3, es3, w3, e3⟩ := P_eveLoop m n (N + 2) σ2 H2 s2 (by omega) (by omega) h2 g2 (es2.lw w (k1.x.tr k2))
    refine ⟨σ3, H3, s3, h3, g3.le (by omega), es2.tr es3, w3, ?_⟩
    rw [fL_isEvening_c11_s, if_neg (show ¬ nI (m + 1) ≤ 0 from nI_ge (a := 0) (by omega) (by omega)), w.1.1, xc2_s e1]
    exact (e2 (fL_isEvening_c11 n) m).trans e3
  | _, 0, _, _, _, _, h0, _, _, _, _ => absurd h0 (Nat.not_lt_zero _)
theorem P_isEvening {N R : Nat} {σ : xSt} {H : List sS} {s : sS} {tx : (Nat → Int32) × Nat} (h : RX σ (H, s, tx)) (hG : GH N (H, s, tx)) (hN : N ≤ 980) (w : LW R σ s) : ∃ σ' H' s', RX σ' (H', s', tx) ∧ GH (N + 8) (H', s', tx) ∧ ES s s' ∧ LW R σ' s' ∧ fL_isEvening σ = some (1, σ') := by
  obtain ⟨y, σ1, hy, e1, k1⟩ := P_nx σ (n := 4) (by omega) (by omega)
  have e1 : fX12_next 4 σ = some (nI y, σ1) := e1
  have a1 : 1 + nI y = nI (y + 1) := by
    rw [Int32.add_comm]
    exact (Int32.ofNat_add y 1).symm
  obtain ⟨σ2, H2, s2, h2, g2, es, w2, e2⟩ := P_eveLoop (y + 1) xF5 N σ1 H s (by have h9 : xF5 = 5 := rfl; omega) (by omega) (k53.RX k1 h) hG (w.ofX k1.x)
  refine ⟨σ2, H2, s2, h2, g2.le (by omega), es, w2, ?_⟩
  unfold fL_isEvening
  rw [xc2_s e1, xl_t, a1]
  exact e2
