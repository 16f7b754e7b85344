/-! isMixed, and the law, whole -/
theorem FM_of {s : sS} {S C P : Nat → Nat} {rd1 rd2 rd3 : Nat → Int32} (h : FK 4 s S C P rd1 rd2 rd3) : FM s S C P ∧ FR S rd1 ∧ FR C rd2 ∧ FR P rd3 := by
  refine ⟨fun f hf => ?_, fun f hf => (h.1 f hf).2.2.1, fun f hf => (h.1 f hf).2.2.2.1, fun f hf => (h.1 f hf).2.2.2.2⟩
  obtain ⟨⟨a1, a2, a3⟩, ⟨b1, b2, b3⟩, _⟩ := h.1 f hf
  refine ⟨?_, ?_, ?_, b1, b2, b3⟩
  · unfold stI
    rw [a1]
    exact nI_toInt (by omega)
  · unfold ctI
    rw [a2]
    exact nI_toInt (by omega)
  · unfold cpI
    rw [a3]
    exact nI_toInt (by omega)
theorem SD_0 (S C X : Nat → Nat) (T : Nat) : SD S C X T 0 FP.dconst0 FP.dconst0 FP.dconst0 := by
  refine ⟨0, 0, 0, HV_0, HV_0, HV_0, ⟨?_, ?_⟩, ⟨?_, ?_⟩, ⟨?_, ?_⟩⟩ <;> simp [sN]
theorem P_mixEnd {N : Nat} {σ : xSt} {H : List sS} {s : sS} {tx : (Nat → Int32) × Nat} {S C P : Nat → Nat} {rd1 rd2 rd3 : Nat → Int32} (h : RX σ (H, s, tx)) (hG : GH N (H, s, tx)) (hk : FK 4 s S C P rd1 rd2 rd3) (n : Nat) : ∃ σ', RX σ' (H, s, tx) ∧ kX σ σ' ∧ fL_isMixed_c15 (n + 1) (nI 4) rd1 rd2 rd3 σ = some (1, σ') := by
  have hI : Inv N s := hG.inv
  obtain ⟨hF, r1, r2, r3⟩ := FM_of hk
  obtain ⟨x, σ1, hx, e1, k1⟩ := P_nx σ (n := 150) (by omega) (by omega)
  have e1 : fX12_next 150 σ = some (nI x, σ1) := e1
  obtain ⟨y, σ2, hy, e2, k2⟩ := P_nx σ1 (n := 50) (by omega) (by omega)
  have e2 : fX12_next 50 σ1 = some (nI y, σ2) := e2
  have h2 := k53.RX k2 (k53.RX k1 h)
  have g : bnd (nI x) (nI (x + y)) := ⟨⟨nI_pos' (by omega), nI_le (b := 200) (by omega) (by decide)⟩, ⟨nI_le (by omega) (by omega), nI_le (b := 200) (by omega) (by decide)⟩⟩
  have zl : (nI x).toInt = (x : Int) := nI_toInt (by omega)
  have zh : (nI (x + y)).toInt = ((x + y : Nat) : Int) := nI_toInt (by omega)
  rw [fL_isMixed_c15_s, if_pos (show (4 : Int32) ≤ nI 4 by decide), xc2_s e1, xc2_s e2, nI_add, xl_t]
  rcases X_mixIs h2 hI g with hM | ⟨b, hb, hM⟩
  · obtain ⟨σ3, h3, k3, e3⟩ := xtr_r (β := Int32 × xSt) (σ := σ2) ((X_mixCostV h2 hI 0 g).1 hM)
    refine ⟨σ3, h3, (k1.x.tr k2.x).tr k3.x, ?_⟩
    rw [zl, zh] at hM
    rw [e3, xc2_s (P_none hF r1 r3 (show x ≤ 200 by omega) (show x + y ≤ 200 by omega) (fun c => mix_none hM c) σ3)]
    exact xb_t1
  · obtain ⟨σ3, h3, k3, e3⟩ := xtr_l (β := Int32 × xSt) (σ := σ2) ((X_mixCostV h2 hI 0 g).2 b hM) 3
    have h3 : RX σ3 (H, s, tx) := h3
    obtain ⟨σ4, h4, k4, e4⟩ := xco_XR (σ := σ3) ((X_mixCostV h3 hI 1 g).2 b hM) rfl
    have h4 : RX σ4 (H, s, tx) := h4
    rw [lowT_0] at e3
    rw [lowT_1] at e4
    have hM2 := hM
    rw [zl, zh] at hM2
    obtain ⟨m1, m2⟩ := MXd_of hF (show x ≤ 200 by omega) (show x + y ≤ 200 by omega) hM2.2.1 hb.2.1
    have no := no_less hF hM2 m1.1.1 rfl m2
    obtain ⟨σ5, h5, k5, e5⟩ := P_c197 (tx := tx) (H := H) hI g hM m1 (fun _ _ => rfl) rfl hF r1 r2 r3 no 4 0 xF5 σ4 FP.dconst0 FP.dconst0 FP.dconst0 (by omega) (by have h9 : xF5 = 5 := rfl; omega) h4 (SD_0 _ _ _ _)
    refine ⟨σ5, h5, (((k1.x.tr k2.x).tr k3.x).tr k4.x).tr k5.x, ?_⟩
    rw [e3, xl_t, e4, xl_t, xl_t, xl_t, xl_t]
    exact e5
theorem P_c15 {tx : (Nat → Int32) × Nat} : ∀ (d f n N : Nat) (σ : xSt) (H : List sS) (s : sS) (S C P : Nat → Nat) (rd1 rd2 rd3 : Nat → Int32), f + d = 4 → d < n → RX σ (H, s, tx) → GH N (H, s, tx) → FK f s S C P rd1 rd2 rd3 → ∃ σ' H' s', RX σ' (H', s', tx) ∧ GH (N + d) (H', s', tx) ∧ (∀ q, (q < 247 ∨ 259 ≤ q) → s' q = s q) ∧ kX σ σ' ∧ fL_isMixed_c15 n (nI f) rd1 rd2 rd3 σ = some (1, σ') := by
  intro d
  induction d with
  | zero =>
    intro f n N σ H s S C P rd1 rd2 rd3 hf hn h hG hk
    match n, hn with
    | n + 1, _ =>
      obtain rfl : f = 4 := by omega
      obtain ⟨σ1, h1, k1, e1⟩ := P_mixEnd h hG hk n
      exact ⟨σ1, H, s, h1, hG, fun _ _ => rfl, k1, e1⟩
  | succ d ih =>
    intro f n N σ H s S C P rd1 rd2 rd3 hf hn h hG hk
    match n, hn with
    | n + 1, hn =>
      have f4 : f < 4 := by omega
      obtain ⟨v1, σ1, hv1, e1, k1⟩ := P_nx σ (n := 201) (by omega) (by omega)
      have e1 : fX12_next 201 σ = some (nI v1, σ1) := e1
      obtain ⟨v2, σ2, hv2, e2, k2⟩ := P_nx σ1 (n := 100) (by omega) (by omega)
      have e2 : fX12_next 100 σ1 = some (nI v2, σ2) := e2
      obtain ⟨v3, σ3, hv3, e3, k3⟩ := P_nx σ2 (n := 3) (by omega) (by omega)
      have e3 : fX12_next 3 σ2 = some (nI v3, σ3) := e3
      have h3 := k53.RX k3 (k53.RX k2 (k53.RX k1 h))
      have go : ∀ (cap : Nat) (σ4 : xSt), cap ≤ 100 → RX σ4 (H, s, tx) → k53 σ3 σ4 → ∃ σ' H' s', RX σ' (H', s', tx) ∧ GH (N + (d + 1)) (H', s', tx) ∧ (∀ q, (q < 247 ∨ 259 ≤ q) → s' q = s q) ∧ kX σ σ' ∧ fL_isMixed_c79 (fL_isMixed_c15 n) (nI f) (nI cap) (nI f) (upd rd1 f (nI v1)) (upd rd2 f (nI v2)) rd3 σ4 = some (1, σ') := by
        intro cap σ4 hc h4 k4
        obtain ⟨σ5, s5, S', C', P', a1, a2, a3, h5, g5, hk5, b5, k5, e5⟩ := P_c79 h4 hG f4 hk (v1 := v1) (v2 := v2) (v3 := cap) (by omega) (by omega) hc (fL_isMixed_c15 n)
        obtain ⟨σ6, H6, s6, h6, g6, b6, k6, e6⟩ := ih (f + 1) n (N + 1) σ5 (kp H s) s5 S' C' P' a1 a2 a3 (by omega) (by omega) h5 g5 hk5
        exact ⟨σ6, H6, s6, h6, g6.le (by omega), fun q hq => (b6 q hq).trans (b5 q hq), ((((k1.x.tr k2.x).tr k3.x).tr k4.x).tr k5.x).tr k6, e5.trans e6⟩
      have cl : (nI f).toNatClampNeg = f := nI_clamp (show f < 2 ^ 31 by omega)
      rw [fL_isMixed_c15_s, if_neg (show ¬ (4 : Int32) ≤ nI f from nI_ge (b := 4) f4 (by decide)), xc2_s e1, xbs_t (xin_n f4 (by decide)), xl_t, cl, xc2_s e2, xbs_t (xin_n f4 (by decide)), xl_t, xc2_s e3]
      by_cases c : nI v3 = 0
      · rw [if_pos c]
        exact go 100 σ3 (by omega) h3 k53.rf
      · obtain ⟨v4, σ4, hv4, e4, k4⟩ := P_nx σ3 (n := 11) (by omega) (by omega)
        have e4 : fX12_next 11 σ3 = some (nI v4, σ4) := e4
        have e10 : (10 : Int32) = nI 10 := rfl
        rw [if_neg c, xc2_s e4, e10, nI_mul]
        exact go (10 * v4) σ4 (by omega) (k53.RX k4 h3) k4
theorem P_isMixed {N R : Nat} {σ : xSt} {H : List sS} {s : sS} {tx : (Nat → Int32) × Nat} (h : RX σ (H, s, tx)) (hG : GH N (H, s, tx)) (w : LW R σ s) (h50 : ∀ k, k < 4 → s (251 + k) = 50) : ∃ σ' H' s', RX σ' (H', s', tx) ∧ GH (N + 4) (H', s', tx) ∧ (∀ q, (q < 247 ∨ 259 ≤ q) → s' q = s q) ∧ LW R σ' s' ∧ fL_isMixed σ = some (1, σ') := by
  obtain ⟨σ1, H1, s1, h1, g1, b1, k1, e1⟩ := P_c15 4 0 xF5 N σ H s (fun _ => 0) (fun _ => 0) (fun _ => 0) (fun _ => 0) (fun _ => 0) (fun _ => 0) (by omega) (by have h9 : xF5 = 5 := rfl; omega) h hG ⟨fun k hk => absurd hk (Nat.not_lt_zero _), fun k _ hk => h50 k hk⟩
  exact ⟨σ1, H1, s1, h1, g1, b1, w.act k1 (fun q hq => b1 q (by omega)), e1⟩
/-- the law holds, whatever is stirred into its draws -/
theorem law_pure (x : Int32) : ∃ σ', fL_holds (iniL x) = some (1, σ') := by
  have h0 : RX (iniL x) ([], iniN, (fun _ => 0), 0) := ini_RX.cong (fun q hq => if_pos hq)
  have g0 := ini_GH
  obtain ⟨y, σ1, hy, e1, k1⟩ := P_nx (iniL x) (n := 3) (by omega) (by omega)
  have e1 : fX12_next 3 (iniL x) = some (nI y, σ1) := e1
  have a1 : 1 + nI y = nI (y + 1) := by
    rw [Int32.add_comm]
    exact (Int32.ofNat_add y 1).symm
  obtain ⟨W, σ2, hW, e2, k2⟩ := P_nx (xu σ1 52 4 (nI (y + 1))) (n := 6) (by omega) (by omega)
  have e2 : fX12_next 6 (xu σ1 52 4 (nI (y + 1))) = some (nI W, σ2) := e2
  have c52 : (xu σ2 52 5 (nI W)) 52 = upd (upd (iniL x 52) 4 (nI (y + 1))) 5 (nI W) := by
    rw [xu_at, k2 52 (by omega), xu_at, k1 52 (by omega)]
  have h2 : RX (xu σ2 52 5 (nI W)) ([], iniN, (fun _ => 0), 0) := by
    refine h0.cong (fun q hq => ?_)
    rw [xu_ne _ _ _ (by omega), k2 q (by omega), xu_ne _ _ _ (by omega), k1 q (by omega)]
  obtain ⟨σ3, e3⟩ : ∃ σ3, xu σ2 52 5 (nI W) = σ3 := ⟨_, rfl⟩
  rw [e3] at c52 h2
  have i52 : ∀ k, iniL x 52 k = 0 := fun k => rfl
  obtain ⟨σ4, H4, s4, T4, R, hR, e4, h4, g4, cr4, rc4, l4, _, b4, _⟩ := P_areMade h2 g0 (by omega) ini_c.1 (fun k hk => by
    rcases (show k = 0 ∨ k = 1 ∨ k = 2 ∨ k = 3 ∨ k = 4 ∨ k = 5 ∨ k = 6 by omega) with e | e | e | e | e | e | e <;> subst e <;> decide)
  have q0 : s4 0 = 0 := (b4 0 (by omega) (by omega) (by omega)).trans (by decide)
  have q1 : s4 1 = 2 := (b4 1 (by omega) (by omega) (by omega)).trans (by decide)
  have q2 : s4 2 = 20 := (b4 2 (by omega) (by omega) (by omega)).trans (by decide)
  have q4 : s4 4 = 2 := (b4 4 (by omega) (by omega) (by omega)).trans (by decide)
  have q6 : s4 6 = 0 := (b4 6 (by omega) (by omega) (by omega)).trans (by decide)
  have q7 : s4 7 = 0 := (b4 7 (by omega) (by omega) (by omega)).trans (by decide)
  have d6 : cD s4 = 0 := by
    unfold cD
    rw [q6]
    rfl
  rw [c52] at l4
  obtain ⟨σ5, H5, s5, h5, g5, w5, b5, e5⟩ := P_isDay h4 g4 (by omega) (R := R) ⟨hR.1, hR.2, cr4.symm⟩ rc4 (by rw [l4, upd_at]) (by rw [l4, upd_ne _ _ (by omega), upd_ne _ _ (by omega), upd_ne _ _ (by omega)]; exact i52 3) (D := y + 1) (W := W) (by omega) (by omega) (by rw [l4, upd_ne _ _ (by omega), upd_ne _ _ (by omega), upd_at]) (by rw [l4, upd_ne _ _ (by omega), upd_at]) q0 q1 (by rw [q2]; decide) (by rw [q4]; decide) d6
  obtain ⟨σ6, H6, s6, h6, g6, b6, w6, e6⟩ := P_isEvening h5 g5 (by omega) w5
  have keep : ∀ q, 247 ≤ q → s6 q = iniN q := fun q hq => ((b6 q (by omega) (by omega) (by omega) (by omega)).trans (b5 q (by omega))).trans (b4 q (by omega) (by omega) (by omega))
  obtain ⟨σ7, H7, s7, h7, g7, b7, w7, e7⟩ := P_isMixed h6 g6 w6 (fun k hk => by
    rw [keep _ (by omega)]
    rcases (show k = 0 ∨ k = 1 ∨ k = 2 ∨ k = 3 by omega) with e | e | e | e <;> subst e <;> decide)
  obtain ⟨σ8, H8, s8, h8, g8, b8, w8, e8⟩ := P_isBest h7 g7 (by omega) w7 (fun r hr => by
    have e : s7 (259 + r) = iniN (259 + r) := (b7 _ (by omega)).trans (keep _ (by omega))
    have z : cN iniN r = 0 := ini_c.2.2.2 r (by have := hR.2; omega)
    unfold cN at z ⊢
    rw [e]
    exact z)
  have s87 : s8 7 = 0 := (b8 7 (by omega)).trans ((b7 7 (by omega)).trans ((b6 7 (by omega) (by omega) (by omega) (by omega)).trans ((b5 7 (by omega)).trans q7)))
  obtain ⟨σ9, H9, s9, h9, g9, w9, e9⟩ := P_isDriven h8 g8 w8 (by
    unfold cS
    rw [s87]
    rfl)
  obtain ⟨σ10, h10, k10, e10⟩ := P_isClean h9 g9 w9
  obtain ⟨σ11, h11, k11, e11⟩ := xcm_XR (σ := σ10) (X_errors h10 g9.inv)
  have e11 : ∀ {β : Type} (K : Int32 → xSt → Option β), xcm (fX11_errors σ10) σ10 K = K 0 σ11 := e11
  have n1 : ¬ (1 : Int32) = 0 := by decide
  refine ⟨σ11, ?_⟩
  unfold fL_holds
  rw [xc2_s e1, a1, xp_t, xc2_s e2, xp_t, e3, xc2_s e4, if_neg n1, xc2_s e5, if_neg n1, xc2_s e6, if_neg n1, xc2_s e7, if_neg n1, xc2_s e8, if_neg n1, xc2_s e9, if_neg n1, xc2_s e10, if_neg n1, e11, if_pos rfl]
