/-! ===== THE CART'S WAY: one that is told ===== -/
theorem div_neg10 {r : Int32} (h : r.toInt < 0) (h2 : 0 ≤ (r - r / 10 * 10).toInt) : (r / 10).toInt < 0 := by
  have hl := r.le_toInt
  obtain ⟨m, hm⟩ : ∃ m : Int, r.toInt = -m := ⟨-r.toInt, by omega⟩
  have e : (r / 10).toInt = -(m / 10) := by
    have e10 : (10 : Int32).toInt = 10 := by decide
    rw [Int32.toInt_div, e10, hm, Int.neg_tdiv, Int.tdiv_eq_ediv_of_nonneg (by omega)]
    exact Int.bmod_eq_of_le (by omega) (by omega)
  by_cases c : (r / 10).toInt < 0
  · exact c
  · exfalso
    have z : r / 10 = 0 := by
      rw [fa_eq, e]
      show _ = (0 : Int)
      omega
    rw [z, show (0 : Int32) * 10 = 0 from rfl, Int32.sub_zero] at h2
    omega
def cV (V : Nat) : Nat := V % 2 + V / 2 % 2 + V / 4 % 2 + V / 8 % 2 + V / 16 % 2 + V / 32 % 2 + V / 64 % 2
theorem cV_o : ∀ V, V < 128 → ∀ a, a < 7 → cV (oV V a) = cV V + (if bV V a = true then 0 else 1) := by decide +kernel
theorem oV_lt : ∀ n, n < 8 → ∀ V, V < 2 ^ n → ∀ a, a < n → oV V a < 2 ^ n := by decide +kernel
theorem cV_full : ∀ n, n < 8 → cV (2 ^ n - 1) = n ∧ 2 ^ n ≤ 128 ∧ ((1 : Int32) <<< ((nI n) &&& 31)) - 1 = nI (2 ^ n - 1) ∧ ∀ V, V < 2 ^ n → cV V = n → V = 2 ^ n - 1 := by decide +kernel
theorem or_zero7 : ∀ V, V < 128 → nI V ||| 0 = nI V := by decide +kernel
theorem X_walk {N : Nat} {σ : xSt} {H : List sS} {s : sS} {tx : (Nat → Int32) × Nat} (h : RX σ (H, s, tx)) (hI : Inv N s) {l : List Nat} (hl : l.length = cS s) (hk : ∀ k, k < l.length → gl l k < cS s ∧ σ 45 k = nI (gl l k)) : ∀ (d k n : Nat) (m : Int32) (f : Nat) (x y : Int), k + d = l.length → d < n → bt m 0 700 → fco σ f x y → ∃ r, fX1_walk_c8 n m (nI f) (nI k) σ = some (r, σ) ∧ (runF s x y m.toInt (l.drop k) = none → r = -1) ∧ ∀ e, runF s x y m.toInt (l.drop k) = some e → r.toInt = e := by
  have h7 := hI.caps.2.2.1
  have e7 : s 7 = nI (cS s) := hI.caps.2.2.2.2.2.2.2.1
  have a5 : σ 38 5 = nI (cS s) := (X_at_nshop h).trans e7
  intro d
  induction d with
  | zero =>
    intro k n m f x y hkd hn hm hf
    obtain ⟨n, rfl⟩ : ∃ z, n = z + 1 := ⟨n - 1, by omega⟩
    obtain rfl : k = l.length := by omega
    obtain ⟨r, e1, e2⟩ := X_minutes hf (fco_home h)
    have f4 := hf.2.2.2.1
    have f5 := hf.2.2.2.2
    unfold bt at hm
    have e3 : r.toInt = x + y := by
      rw [e2]
      unfold ab
      rw [if_pos (by omega), if_pos (by omega)]
      omega
    rw [fX1_walk_c8_s, a5, if_pos (nI_le (by omega) (by omega)), show fX1_minutesBetween (nI f) 7 σ = some (r, σ) from e1, xc2_t, List.drop_length]
    refine ⟨_, rfl, fun h9 => (nomatch h9), fun e he => ?_⟩
    have he : some (m.toInt + (x + y)) = some e := he
    cases he
    rw [i32_add (by rw [e3]; omega) (by rw [e3]; omega), e3]
  | succ d ih =>
    intro k n m f x y hkd hn hm hf
    obtain ⟨n, rfl⟩ : ∃ z, n = z + 1 := ⟨n - 1, by omega⟩
    have hkl : k < l.length := by omega
    obtain ⟨g1, g2⟩ := hk k hkl
    have lv := X_leaves h hI g1 hf hm
    rw [gl_drop hkl]
    have er : runF s x y m.toInt (gl l k :: l.drop (k + 1)) = (match leav s (gl l k) x y m.toInt with | none => none | some m' => runF s (sx s (gl l k)) (sy s (gl l k)) m' (l.drop (k + 1))) := rfl
    rw [er, fX1_walk_c8_s, a5, if_neg (nI_ge (by omega) (by omega)), xr_n (by omega) (by decide), g2]
    cases hv : leav s (gl l k) x y m.toInt with
    | none =>
      rw [lv.1 hv, xc2_t, if_pos rfl]
      exact ⟨-1, rfl, fun _ => rfl, fun e he => nomatch he⟩
    | some m' =>
      obtain ⟨r, r1, r2⟩ := lv.2 m' hv
      have lb := leav_b hI g1 hm.1 hv
      rw [r1, xc2_t, if_neg (show ¬ r = -1 from fun h9 => by rw [h9] at r2; have r2 : (-1 : Int) = m' := r2; omega), xr_n (by omega) (by decide), g2, xl_t, nI_1, ← r2]
      exact ih (k + 1) n r (gl l k) _ _ (by omega) (by omega) ⟨by rw [r2]; exact lb.1, by rw [r2]; omega⟩ (fco_shop h hI g1)
theorem M_bad {H : List sS} {s : sS} {tx : (Nat → Int32) × Nat} (h7 : cS s ≤ 7) (a1 : Int32) : ∀ (j n V : Nat) (rest : Int32) (τ : xSt), V < 2 ^ cS s → cV V + j < cS s → j < n → RM τ (H, s, tx) → τ 0 18 = nI (cS s) → ∃ τ', fX12_isTold_c23 n a1 rest (nI V) (nI j - 1) τ = some (0, τ') ∧ RM τ' (H, s, tx) ∧ fR τ τ' := by
  obtain ⟨c1, c2, c3, c4⟩ := cV_full (cS s) (by omega)
  intro j
  induction j with
  | zero =>
    intro n V rest τ hV hc hn h h18
    obtain ⟨n, rfl⟩ : ∃ z, n = z + 1 := ⟨n - 1, by omega⟩
    rw [fX12_isTold_c23_s, if_pos (show nI 0 - 1 < 0 by decide)]
    by_cases g1 : a1 < 0
    · rw [if_pos g1]; exact ⟨τ, rfl, h, fR.refl τ⟩
    · rw [if_neg g1]
      by_cases g2 : rest = 0
      · rw [if_pos g2, h18, c3, if_neg (show ¬ nI V = nI (2 ^ cS s - 1) from fun h9 => by
          have := (nI_eq (by omega) (by omega)).mp h9
          rw [this, c1] at hc
          omega)]
        exact ⟨τ, rfl, h, fR.refl τ⟩
      · rw [if_neg g2]; exact ⟨τ, rfl, h, fR.refl τ⟩
  | succ j ih =>
    intro n V rest τ hV hc hn h h18
    obtain ⟨n, rfl⟩ : ∃ z, n = z + 1 := ⟨n - 1, by omega⟩
    have hj : j < 7 := by omega
    rw [show nI (j + 1) - 1 = nI j from nI_pred j, fX12_isTold_c23_s, if_neg (show ¬ nI j < 0 from fun h9 => by rw [fa_lt, nI_toInt (by omega)] at h9; have h9 : (j : Int) < 0 := h9; omega), xs_n (by omega) (by decide), xr_n (by omega) (by decide), xu_at, upd_at, M_in, xc2_t, x_i10, xu_ne _ _ _ (by decide), h18, xr_n (by omega) (by decide), xu_at, upd_at]
    have f1 : fR τ (xu τ 11 j (rest - rest / 10 * 10)) := (fR.refl τ).xu 11 j _ (by omega)
    have e18 : xu τ 11 j (rest - rest / 10 * 10) 0 18 = nI (cS s) := by rw [xu_ne _ _ _ (by decide)]; exact h18
    unfold fX12_isTold_c73
    by_cases g : 0 ≤ rest - rest / 10 * 10 ∧ rest - rest / 10 * 10 ≤ nI (cS s) - 1
    · obtain ⟨d, d1, d2⟩ := x_cnt rfl (by omega) g
      have b7 := bit7 V (by omega) d (by omega)
      have co := cV_o V (by omega) d (by omega)
      rw [if_pos g, xl_t, xl_t, xl_t, d2, b7.2.1, show nI j + (-1) = nI j - 1 from (Int32.sub_eq_add_neg _ _).symm]
      rw [d2] at f1 e18
      obtain ⟨τ', q1, q2, q3⟩ := ih n (oV V d) (rest / 10) _ (oV_lt (cS s) (by omega) V hV d d1) (by rw [co]; split <;> omega) (by omega) (h.scr2 f1) e18
      exact ⟨τ', q1, q2, f1.trans q3⟩
    · rw [if_neg g, xl_t, xl_t, xl_t, or_zero7 V (by omega), show nI j + (-1) = nI j - 1 from (Int32.sub_eq_add_neg _ _).symm]
      obtain ⟨τ', q1, q2, q3⟩ := ih n V (rest / 10) _ hV (by omega) (by omega) (h.scr2 f1) e18
      exact ⟨τ', q1, q2, f1.trans q3⟩
def toldR (n : Nat) (σ τ : xSt) : Prop := ∀ k, k < n → ∃ d, d < n ∧ σ 45 k = nI d ∧ τ 11 k = nI d
theorem XM_told {N : Nat} {H : List sS} {s : sS} {tx : (Nat → Int32) × Nat} (hI : Inv N s) (a1 : Int32) : ∀ (j n m V : Nat) (rest : Int32) (σ τ : xSt), V < 2 ^ cS s → cV V + j = cS s → j < n → j < m → RX σ (H, s, tx) → RM τ (H, s, tx) → τ 0 18 = nI (cS s) → (∀ k, j ≤ k → k < cS s → ∃ d, d < cS s ∧ σ 45 k = nI d ∧ τ 11 k = nI d) → (a1.toInt < 0 → rest.toInt < 0) → ∃ σ' τ', RX σ' (H, s, tx) ∧ RM τ' (H, s, tx) ∧ fR τ τ' ∧ ((fX1_readWay_c12 n rest (nI V) (nI j - 1) σ = some (1, σ') ∧ fX12_isTold_c23 m a1 rest (nI V) (nI j - 1) τ = some (1, τ') ∧ toldR (cS s) σ' τ' ∧ τ' 0 18 = nI (cS s)) ∨ (fX1_readWay_c12 n rest (nI V) (nI j - 1) σ = some (0, σ') ∧ fX12_isTold_c23 m a1 rest (nI V) (nI j - 1) τ = some (0, τ'))) := by
  have h7 := hI.caps.2.2.1
  have e7 : s 7 = nI (cS s) := hI.caps.2.2.2.2.2.2.2.1
  obtain ⟨c1, c2, c3, c4⟩ := cV_full (cS s) (by omega)
  intro j
  induction j with
  | zero =>
    intro n m V rest σ τ hV hc hn hm hx hM h18 hk hneg
    obtain ⟨n, rfl⟩ : ∃ z, n = z + 1 := ⟨n - 1, by omega⟩
    obtain ⟨m, rfl⟩ : ∃ z, m = z + 1 := ⟨m - 1, by omega⟩
    rw [fX1_readWay_c12_s, fX12_isTold_c23_s, if_pos (show nI 0 - 1 < 0 by decide), if_pos (show nI 0 - 1 < 0 by decide)]
    refine ⟨σ, τ, hx, hM, fR.refl τ, ?_⟩
    by_cases g2 : rest = 0
    · have hp : ¬ a1 < 0 := fun h9 => by
        have := hneg ((fa_lt _ _).mp h9)
        rw [g2] at this
        exact absurd this (by decide)
      have eV : V = 2 ^ cS s - 1 := c4 V hV (by omega)
      rw [if_pos g2, if_neg hp, if_pos g2, h18, c3, if_pos (by rw [eV])]
      exact Or.inl ⟨rfl, rfl, fun k hk2 => hk k (Nat.zero_le _) hk2, rfl⟩
    · rw [if_neg g2]
      refine Or.inr ⟨rfl, ?_⟩
      by_cases g1 : a1 < 0
      · rw [if_pos g1]
      · rw [if_neg g1, if_neg g2]
  | succ j ih =>
    intro n m V rest σ τ hV hc hn hm hx hM h18 hk hneg
    obtain ⟨n, rfl⟩ : ∃ z, n = z + 1 := ⟨n - 1, by omega⟩
    obtain ⟨m, rfl⟩ : ∃ z, m = z + 1 := ⟨m - 1, by omega⟩
    have hj : j < 7 := by omega
    have a5 : σ 38 5 = nI (cS s) := (X_at_nshop hx).trans e7
    have nj : ¬ nI j < 0 := fun h9 => by rw [fa_lt, nI_toInt (by omega)] at h9; have h9 : (j : Int) < 0 := h9; omega
    rw [show nI (j + 1) - 1 = nI j from nI_pred j, fX1_readWay_c12_s, fX12_isTold_c23_s, if_neg nj, if_neg nj, xl_t, xl_t, a5, X_isWithin, xc2_t, x_i10, xs_n (by omega) (by decide), xr_n (by omega) (by decide), xu_at, upd_at, M_in, xc2_t, x_i10, xu_ne _ _ _ (by decide), h18, xr_n (by omega) (by decide), xu_at, upd_at]
    have f1 : fR τ (xu τ 11 j (rest - rest / 10 * 10)) := (fR.refl τ).xu 11 j _ (by omega)
    have e18 : xu τ 11 j (rest - rest / 10 * 10) 0 18 = nI (cS s) := by rw [xu_ne _ _ _ (by decide)]; exact h18
    unfold fX12_isTold_c73
    by_cases g : 0 ≤ rest - rest / 10 * 10 ∧ rest - rest / 10 * 10 ≤ nI (cS s) - 1
    · obtain ⟨d, d1, d2⟩ := x_cnt rfl (by omega) g
      have b7 := bit7 V (by omega) d (by omega)
      have co := cV_o V (by omega) d (by omega)
      have hneg2 : a1.toInt < 0 → (rest / 10).toInt < 0 := fun h9 => div_neg10 (hneg h9) ((fa_le _ _).mp g.1)
      rw [if_pos g, if_pos g, xl_t, xl_t, xl_t, d2, b7.2.1, show nI j + (-1) = nI j - 1 from (Int32.sub_eq_add_neg _ _).symm]
      rw [d2] at f1 e18
      cases hb : bV V d with
      | true =>
        rw [if_neg (show ¬ ((nI V >>> (nI d &&& 31)) &&& 1) = 0 from fun h9 => by rw [b7.1, hb] at h9; exact absurd h9 (by decide))]
        rw [hb, if_pos rfl] at co
        obtain ⟨τ', q1, q2, q3⟩ := M_bad (tx := tx) (H := H) h7 a1 j m (oV V d) (rest / 10) _ (oV_lt (cS s) (by omega) V hV d d1) (by omega) (by omega) (hM.scr2 f1) e18
        exact ⟨σ, τ', hx, q2, f1.trans q3, Or.inr ⟨rfl, q1⟩⟩
      | false =>
        rw [if_pos (b7.1.mpr hb), xl_t, xs_n (by omega) (by decide), xl_t]
        rw [hb, if_neg (by decide)] at co
        have fx : fX σ (xu σ 45 j (nI d)) := (fX.refl σ).xu 45 j _ (by decide) (fun h9 => absurd h9 (by decide))
        obtain ⟨σ', τ', q1, q2, q3, q4⟩ := ih n m (oV V d) (rest / 10) (xu σ 45 j (nI d)) _ (oV_lt (cS s) (by omega) V hV d d1) (by omega) (by omega) (by omega) (hx.scr fx) (hM.scr2 f1) e18 (fun k k1 k2 => by
          rw [xu_at, xu_at]
          by_cases e : k = j
          · rw [e, upd_at, upd_at]; exact ⟨d, d1, rfl, rfl⟩
          · rw [upd_ne _ _ e, upd_ne _ _ e]; exact hk k (by omega) k2) hneg2
        exact ⟨σ', τ', q1, q2, f1.trans q3, q4⟩
    · rw [if_neg g, if_neg g, xl_t, xl_t, xl_t, or_zero7 V (by omega), show nI j + (-1) = nI j - 1 from (Int32.sub_eq_add_neg _ _).symm]
      obtain ⟨τ', q1, q2, q3⟩ := M_bad (tx := tx) (H := H) h7 a1 j m V (rest / 10) _ hV (by omega) (by omega) (hM.scr2 f1) e18
      exact ⟨σ, τ', hx, q2, f1.trans q3, Or.inr ⟨rfl, q1⟩⟩
/-- a row that both tell -/
theorem told_list {n : Nat} {σ τ : xSt} (h : toldR n σ τ) : ∃ l : List Nat, l.length = n ∧ ∀ k, k < n → gl l k < n ∧ σ 45 k = nI (gl l k) ∧ τ 11 k = nI (gl l k) := by
  have main : ∀ m, m ≤ n → ∃ l : List Nat, l.length = m ∧ ∀ k, k < m → gl l k < n ∧ σ 45 k = nI (gl l k) ∧ τ 11 k = nI (gl l k) := by
    intro m
    induction m with
    | zero => intro _; exact ⟨[], rfl, fun k hk => absurd hk (Nat.not_lt_zero k)⟩
    | succ m ih =>
      intro hm
      obtain ⟨l, l1, l2⟩ := ih (by omega)
      obtain ⟨d, d1, d2, d3⟩ := h m (by omega)
      refine ⟨l ++ [d], by rw [List.length_append, List.length_singleton, l1], fun k hk => ?_⟩
      rw [gl_app, l1]
      by_cases c : k < m
      · rw [if_pos c]; exact l2 k c
      · have e : k = m := by omega
        rw [if_neg c, if_pos e, e]; exact ⟨d1, d2, d3⟩
  exact main n (Nat.le_refl n)
theorem XM_wayBack {N : Nat} {σ τ : xSt} {H : List sS} {s : sS} {tx : (Nat → Int32) × Nat} (hx : RX σ (H, s, tx)) (hm : RM τ (H, s, tx)) (hI : Inv N s) (p0 p1 : Int32) : ∃ o, XR (fX11_wayBack p0 p1 σ) (o, (H, s, tx)) ∧ MR (fX12_wayBack p0 p1 τ) 9 1 9 9 (o, (H, s, tx)) ∧ ∀ k, o = .inr k → k = 1 := by
  have h7 := hI.caps.2.2.1
  have e7 : s 7 = nI (cS s) := hI.caps.2.2.2.2.2.2.2.1
  obtain ⟨c1, c2, c3, c4⟩ := cV_full (cS s) (by omega)
  have no : ∀ σ1 τ1, RX σ1 (H, s, tx) → RM τ1 (H, s, tx) → ∃ o, XR (fX11_wayBack_c26 p0 σ1) (o, (H, s, tx)) ∧ MR (fX12_wayBack_c24 p0 τ1) 9 1 9 9 (o, (H, s, tx)) ∧ ∀ k, o = .inr k → k = 1 := fun σ1 τ1 h1 h2 => by
    unfold fX11_wayBack_c26 fX11_wayBack_c27 fX12_wayBack_c24 fX12_wayBack_c25
    rw [X_needArgument0, xct_r, M_can0, xc2_t, if_pos rfl]
    exact ⟨.inr 1, ⟨σ1, rfl, h1⟩, ⟨_, _, rfl, h2.raised 1, rfl, fun v hv => nomatch hv⟩, fun k hk => by cases hk; decide⟩
  unfold fX11_wayBack fX12_wayBack
  rw [X_isWithin, xc2_t, x_i10, M_in, xc2_t, x_i10]
  by_cases g : 0 ≤ p0 ∧ p0 ≤ 600
  · have hb : bt p0 0 700 := by
      have g1 := (fa_le _ _).mp g.1
      have g2 := (fa_le _ _).mp g.2
      exact ⟨g1, by have g2 : p0.toInt ≤ (600 : Int) := g2; omega⟩
    rw [if_pos g, if_pos g]
    have a5 : σ 38 5 = nI (cS s) := (X_at_nshop hx).trans e7
    have a7 : τ 1 7 = nI (cS s) := (M_at2 hm (by decide)).trans e7
    have f1 : fR τ (xu τ 0 18 (nI (cS s))) := (fR.refl τ).xu 0 18 _ (by decide)
    have e18 : xu τ 0 18 (nI (cS s)) 0 18 = nI (cS s) := by rw [xu_at, upd_at]
    obtain ⟨σ1, τ1, q1, q2, q3, q4⟩ := XM_told (tx := tx) (H := H) hI p1 (cS s) xFU xFU 0 p1 σ _ (Nat.two_pow_pos _) (by show 0 + cS s = cS s; omega) (by show _ < 8192; omega) (by show _ < 8192; omega) hx (hm.scr2 f1) e18 (fun k k1 k2 => by omega) id
    unfold fX1_readWay fX12_isTold
    rw [a5, xl_t, show (7 : Int32) = nI 7 from rfl, xr_n (by decide) (by decide), a7, xp_t, e18, xl_t]
    rcases q4 with ⟨w1, w2, w3, w4⟩ | ⟨w1, w2⟩
    · rw [show fX1_readWay_c12 xFU p1 0 (nI (cS s) - 1) σ = some (1, σ1) from w1, xc2_t, show fX12_isTold_c23 xFU p1 p1 0 (nI (cS s) - 1) (xu τ 0 18 (nI (cS s))) = some (1, τ1) from w2, xc2_t, if_neg (show ¬ (1 : Int32) = 0 by decide), if_neg (show ¬ (1 : Int32) = 0 by decide)]
      obtain ⟨l, l1, l2⟩ := told_list w3
      unfold fX11_wayBack_c27 fX12_wayBack_c25 fX1_walk fX12_back
      rw [X_needArgument1, xct_l, M_can1, xc2_t, if_neg (show ¬ (1 : Int32) = 0 by decide)]
      obtain ⟨r1, u1, u2, u3⟩ := X_walk q1 hI l1 (fun k hk => ⟨(l2 k (by omega)).1, (l2 k (by omega)).2.1⟩) l.length 0 xFU p0 7 0 0 (Nat.zero_add _) (by show _ < 8192; omega) hb (fco_home q1)
      have hrow : rowIs (xu τ1 0 0 0) l := ⟨by omega, by rw [xu_at, upd_ne _ _ (by decide), w4, l1], fun k hk => ⟨by have := (l2 k (by omega)).1; omega, by rw [xu_ne _ _ _ (by decide)]; exact (l2 k (by omega)).2.2⟩⟩
      obtain ⟨r2, v1, v2, v3⟩ := M_back (q2.raised 0) hI hrow (fun k hk => (l2 k (by omega)).1) l.length 0 xFU p0 0 0 (Nat.zero_add _) (by show _ < 8192; omega) hb ⟨by decide, by decide⟩ ⟨by decide, by decide⟩
      have u2 : runF s 0 0 p0.toInt l = none → r1 = -1 := u2
      have u3 : ∀ e, runF s 0 0 p0.toInt l = some e → r1.toInt = e := u3
      have v2 : runF s 0 0 p0.toInt l = none → r2 = 2000000000 := v2
      have v3 : ∀ e, runF s 0 0 p0.toInt l = some e → r2.toInt = e ∧ 0 ≤ e ∧ e ≤ 2000 := v3
      rw [show fX1_walk_c8 xFU p0 7 0 σ1 = some (r1, σ1) from u1, xc2_t, show fX12_back_c10 xFU p0 0 0 0 (xu τ1 0 0 0) = some (r2, xu τ1 0 0 0) from v1, xc2_t]
      cases hr : runF s 0 0 p0.toInt l with
      | none =>
        rw [u2 hr, v2 hr, if_pos rfl]
        exact ⟨.inl (-1), ⟨σ1, rfl, q1⟩, ⟨_, _, rfl, q2.raised 0, rfl, fun v hv => (Sum.inl.inj hv).symm⟩, fun k hk => nomatch hk⟩
      | some e =>
        have k1 := u3 e hr
        obtain ⟨k2, k3, k4⟩ := v3 e hr
        rw [if_neg (show ¬ r2 = 2000000000 from fun h9 => by rw [h9] at k2; have k2 : (2000000000 : Int) = e := k2; omega)]
        exact ⟨.inl r1, ⟨σ1, rfl, q1⟩, ⟨_, _, rfl, q2.raised 0, rfl, fun v hv => (Sum.inl.inj hv).symm.trans ((fa_eq _ _).mpr (k1.trans k2.symm))⟩, fun k hk => nomatch hk⟩
    · rw [show fX1_readWay_c12 xFU p1 0 (nI (cS s) - 1) σ = some (0, σ1) from w1, xc2_t, show fX12_isTold_c23 xFU p1 p1 0 (nI (cS s) - 1) (xu τ 0 18 (nI (cS s))) = some (0, τ1) from w2, xc2_t, if_pos rfl, if_pos rfl]
      exact no σ1 τ1 q1 q2
  · rw [if_neg g, if_neg g]
    exact no σ τ hx hm
