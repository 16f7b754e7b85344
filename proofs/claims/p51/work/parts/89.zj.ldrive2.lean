/-! isDriven: what the class answers -/
theorem begin_b {m : Nat} (hm : m ≤ 600) : (0 ≤ nI m ∧ nI m ≤ 600) ∧ bt (nI m) 0 700 ∧ (nI m).toInt = (m : Int) := by
  have e : (nI m).toInt = (m : Int) := nI_toInt (by omega)
  refine ⟨⟨nI_pos' (by omega), nI_le (b := 600) hm (by decide)⟩, ⟨?_, ?_⟩, e⟩ <;> rw [e] <;> omega
theorem X_comesBackV {N : Nat} {σ : xSt} {H : List sS} {s : sS} {tx : (Nat → Int32) × Nat} (h : RX σ (H, s, tx)) (hI : Inv N s) {m : Nat} (hm : m ≤ 600) : (bestW s m = none → XR (fX11_comesBack (nI m) σ) (.inr 3, (H, s, tx))) ∧ ∀ e p, bestW s m = some (e, p) → ∃ r : Int32, r.toInt = e ∧ 0 ≤ e ∧ e ≤ 2000 ∧ XR (fX11_comesBack (nI m) σ) (.inl r, (H, s, tx)) := by
  obtain ⟨g, hb, em⟩ := begin_b hm
  obtain ⟨σ1, a1, a2, a3, a4⟩ := X_findWay h hI hb
  rw [em] at a1 a3
  unfold fX11_comesBack
  rw [X_isWithin, xc2_t, if_pos g, X_needArgument1, xct_l, a1, xc2_t]
  refine ⟨fun hw => ?_, fun e p hw => ?_⟩
  · rw [hw]
    show XR (xct (fX11_needElement 0 σ1) _) _
    rw [X_needElement0, xct_r]
    exact ⟨σ1, rfl, a2⟩
  · rw [hw] at a3
    refine ⟨σ1 38 7, a3.1, a3.2.1, a3.2.2.1, ?_⟩
    rw [hw]
    show XR (xct (fX11_needElement 1 σ1) _) _
    rw [X_needElement1, xct_l]
    exact ⟨σ1, rfl, a2⟩
theorem X_shopOfV {N : Nat} {σ : xSt} {H : List sS} {s : sS} {tx : (Nat → Int32) × Nat} (h : RX σ (H, s, tx)) (hI : Inv N s) {m k : Nat} (hm : m ≤ 600) (hk : k < cS s) {e : Int} {p : List Nat} (hw : bestW s m = some (e, p)) : XR (fX11_shopOf (nI m) (nI k) σ) (.inl (nI (gl p k)), (H, s, tx)) := by
  obtain ⟨g, hb, em⟩ := begin_b hm
  have h7 := hI.caps.2.2.1
  have e7 : s 7 = nI (cS s) := hI.caps.2.2.2.2.2.2.2.1
  have a5 : σ 38 5 = nI (cS s) := (X_at_nshop h).trans e7
  have c : 0 ≤ nI k ∧ nI k ≤ nI (cS s) - 1 := x_cntI rfl (by omega) hk
  obtain ⟨σ1, a1, a2, a3, a4⟩ := X_findWay h hI hb
  rw [em, hw] at a1 a3
  have k1 := a3.2.2.2.2 k hk
  unfold fX11_shopOf
  rw [a5, X_isWithin, xc2_t, if_pos c, X_needIndex1, xct_l, X_isWithin, xc2_t, if_pos g, X_needArgument1, xct_l, a1, xc2_t]
  show XR (xct (fX11_needElement 1 σ1) _) _
  rw [X_needElement1, xct_l, xr_n (by omega) (by decide), k1.2]
  exact ⟨σ1, rfl, a2⟩
/-- the digits of a row are read -/
theorem X_readRow {N : Nat} {H : List sS} {s : sS} {tx : (Nat → Int32) × Nat} (hI : Inv N s) (h4 : cS s ≤ 4) {c : List Nat} (hc : c ∈ prm (cS s) (rg 0 (cS s))) : ∀ (j n : Nat) (σ : xSt), j ≤ cS s → j < n → RX σ (H, s, tx) → (∀ k, j ≤ k → k < cS s → σ 45 k = nI (gl c k)) → ∃ σ', fX1_readWay_c12 n (nI (numP c j)) (nI (mD c (cS s) (cS s - j))) (nI j - 1) σ = some (1, σ') ∧ RX σ' (H, s, tx) ∧ ∀ k, k < cS s → σ' 45 k = nI (gl c k) := by
  obtain ⟨c1, c2, c3, c4, c5⟩ := okW_of h4 hc
  have e7 : s 7 = nI (cS s) := hI.caps.2.2.2.2.2.2.2.1
  have np : ∀ j, j ≤ cS s → numP c j < 100000 := by
    have : ∀ j, j ≤ cS s → numP c j < 10 ^ j := by
      intro j
      induction j with
      | zero => intro _; show 0 < 1; omega
      | succ j ih =>
        intro hj
        have i1 := ih (by omega)
        have i2 := c2 j (by omega)
        show 10 * numP c j + gl c j < 10 ^ (j + 1)
        rw [Nat.pow_succ]
        omega
    intro j hj
    have i1 := this j hj
    have i2 : 10 ^ j ≤ 10 ^ 4 := Nat.pow_le_pow_right (by omega) (by omega)
    omega
  intro j
  induction j with
  | zero =>
    intro n σ hj hn h hk
    obtain ⟨n, rfl⟩ : ∃ z, n = z + 1 := ⟨n - 1, by omega⟩
    rw [fX1_readWay_c12_s, if_pos (show nI 0 - 1 < 0 by decide)]
    exact ⟨σ, if_pos rfl, h, fun k k1 => hk k (Nat.zero_le _) k1⟩
  | succ j ih =>
    intro n σ hj hn h hk
    obtain ⟨n, rfl⟩ : ∃ z, n = z + 1 := ⟨n - 1, by omega⟩
    have g := c2 j (by omega)
    have m := c3 (cS s - (j + 1)) (by omega)
    rw [show cS s - 1 - (cS s - (j + 1)) = j by omega] at m
    have b7 := bit7 _ m.2 (gl c j) (by omega)
    have em : oV (mD c (cS s) (cS s - (j + 1))) (gl c j) = mD c (cS s) (cS s - j) := by
      rw [show cS s - j = cS s - (j + 1) + 1 by omega]
      show _ = oV (mD c (cS s) (cS s - (j + 1))) (gl c (cS s - 1 - (cS s - (j + 1))))
      rw [show cS s - 1 - (cS s - (j + 1)) = j by omega]
    have a5 : σ 38 5 = nI (cS s) := (X_at_nshop h).trans e7
    have nj : ¬ nI j < 0 := nI_pos (by omega)
    have np1 := np (j + 1) hj
    have r1 : numP c (j + 1) % 10 = gl c j := by
      show (10 * numP c j + gl c j) % 10 = gl c j
      omega
    have r2 : numP c (j + 1) / 10 = numP c j := by
      show (10 * numP c j + gl c j) / 10 = numP c j
      omega
    have e10 : (10 : Int32) = nI 10 := rfl
    have wi : 0 ≤ nI (gl c j) ∧ nI (gl c j) ≤ nI (cS s) - 1 := x_cntI rfl (by omega) g
    have fx : fX σ (xu σ 45 j (nI (gl c j))) := (fX.refl σ).xu 45 j _ (by decide) (fun h9 => absurd h9 (by decide))
    obtain ⟨σ', q1, q2, q3⟩ := ih n (xu σ 45 j (nI (gl c j))) (by omega) (by omega) (h.scr fx) (fun k k1 k2 => by
      rw [xu_at]
      by_cases e : k = j
      · rw [e, upd_at]
      · rw [upd_ne _ _ e]
        exact hk k (by omega) k2)
    refine ⟨σ', ?_, q2, q3⟩
    rw [show nI (j + 1) - 1 = nI j from nI_pred j, fX1_readWay_c12_s, if_neg nj, e10, nI_rem (by omega) (by omega) (by decide), nI_divN (by omega) (by omega) (by decide), r1, r2, xl_t, xl_t, a5, X_isWithin, xc2_t, if_pos wi, if_neg (show ¬ (1 : Int32) = 0 by decide), if_pos (b7.1.mpr m.1), xl_t, b7.2.1, em, xs_n (by omega) (by decide), xl_t, show nI j + (-1) = nI j - 1 from (Int32.sub_eq_add_neg _ _).symm]
    exact q1
theorem X_wayBackV {N : Nat} {σ : xSt} {H : List sS} {s : sS} {tx : (Nat → Int32) × Nat} (h : RX σ (H, s, tx)) (hI : Inv N s) {m : Nat} (hm : m ≤ 600) (h4 : cS s ≤ 4) {c : List Nat} (hc : c ∈ prm (cS s) (rg 0 (cS s))) : ∃ r : Int32, XR (fX11_wayBack (nI m) (nI (numP c (cS s))) σ) (.inl r, (H, s, tx)) ∧ (runF s 0 0 m c = none → r = -1) ∧ ∀ e, runF s 0 0 m c = some e → r.toInt = e := by
  obtain ⟨g, hb, em⟩ := begin_b hm
  obtain ⟨c1, c2, c3, c4, c5⟩ := okW_of h4 hc
  have e7 : s 7 = nI (cS s) := hI.caps.2.2.2.2.2.2.2.1
  have a5 : σ 38 5 = nI (cS s) := (X_at_nshop h).trans e7
  obtain ⟨σ1, q1, q2, q3⟩ := X_readRow (tx := tx) (H := H) hI h4 hc (cS s) xFU σ (Nat.le_refl _) (by show _ < 8192; omega) h (fun k k1 k2 => by omega)
  have q1 : fX1_readWay_c12 xFU (nI (numP c (cS s))) 0 (nI (cS s) - 1) σ = some (1, σ1) := by
    have e0 : mD c (cS s) (cS s - cS s) = 0 := by
      rw [Nat.sub_self]
      rfl
    rw [e0] at q1
    exact q1
  obtain ⟨r, u1, u2, u3⟩ := X_walk q2 hI c1 (fun k hk => ⟨c2 k (by omega), q3 k (by omega)⟩) c.length 0 xFU (nI m) 7 0 0 (Nat.zero_add _) (by show _ < 8192; omega) hb (fco_home q2)
  rw [em] at u2 u3
  refine ⟨r, ?_, u2, u3⟩
  unfold fX11_wayBack
  rw [X_isWithin, xc2_t, if_pos g, if_neg (show ¬ (1 : Int32) = 0 by decide)]
  unfold fX1_readWay
  rw [a5, xl_t, q1, xc2_t, if_neg (show ¬ (1 : Int32) = 0 by decide)]
  unfold fX11_wayBack_c27 fX1_walk
  rw [X_needArgument1, xct_l, show fX1_walk_c8 xFU (nI m) 7 0 σ1 = some (r, σ1) from u1, xc2_t]
  exact ⟨σ1, rfl, q2⟩
theorem run_le {N : Nat} {s : sS} (h : Inv N s) : ∀ (l : List Nat) (x y m e : Int), (∀ a, a ∈ l → a < cS s) → (0 ≤ m ∧ m ≤ 700) → x ≤ 20 → y ≤ 20 → runF s x y m l = some e → e ≤ 740
  | [], x, y, m, e, _, _, _, _, he => by
    have he : some (m + (x + y)) = some e := he
    cases he
    omega
  | a :: l, x, y, m, e, hl, hm, _, _, he => by
    have he : (match leav s a x y m with | none => none | some m' => runF s (sx s a) (sy s a) m' l) = some e := he
    have ha := hl a List.mem_cons_self
    have sb := shop_b h ha
    cases hv : leav s a x y m with
    | none => rw [hv] at he; exact nomatch he
    | some m' =>
      rw [hv] at he
      have b := leav_b h ha hm.1 hv
      exact run_le h l (sx s a) (sy s a) m' e (fun c hc => hl c (List.mem_cons_of_mem _ hc)) (by omega) (by omega) (by omega) he
/-- a shop more -/
theorem P_addShop {N : Nat} {σ : xSt} {H : List sS} {s : sS} {tx : (Nat → Int32) × Nat} (h : RX σ (H, s, tx)) (hG : GH N (H, s, tx)) (hs : cS s < 7) {x y o c t : Nat} (hx : x ≤ 20) (hy : y ≤ 20) (ho : o ≤ c) (hc : c ≤ 600) (ht : t ≤ 30) : ∃ σ' s', RX σ' (kp H s, s', tx) ∧ GH (N + 1) (kp H s, s', tx) ∧ (∀ q, (q < 625 ∧ q ≠ 7) → s' q = s q) ∧ cS s' = cS s + 1 ∧ kL σ σ' ∧ ∀ {β : Type} (K : Int32 → xSt → Option β), xco (fX11_addShop (nI x) (nI y) (nI o) (nI c) (nI t) σ) σ K = K (nI (cS s)) σ' := by
  have hI : Inv N s := hG.inv
  have e7 : s 7 = nI (cS s) := hI.caps.2.2.2.2.2.2.2.1
  have h2 : ¬ (7 : Int32) ≤ (H, s, tx).2.1 7 := by
    show ¬ (7 : Int32) ≤ s 7
    rw [e7]
    exact nI_ge (b := 7) hs (by decide)
  have e : sp_addShop (nI x) (nI y) (nI o) (nI c) (nI t) (H, s, tx) = (.inl (s 7), (kp H s, upd (upd (upd (upd (upd (upd s 7 (nI (cS s + 1))) (625 + cS s) (nI x)) (632 + cS s) (nI y)) (639 + cS s) (nI o)) (646 + cS s) (nI c)) (653 + cS s) (nI t), tx)) := by
    unfold sp_addShop
    rw [if_pos ⟨nI_pos' (by omega), nI_le (b := 20) hx (by decide)⟩, if_pos ⟨nI_pos' (by omega), nI_le (b := 20) hy (by decide)⟩, if_pos ⟨nI_pos' (by omega), nI_le (b := 600) (by omega) (by decide)⟩, if_pos ⟨nI_le ho (by omega), nI_le (b := 600) hc (by decide)⟩, if_pos ⟨nI_pos' (by omega), nI_le (b := 30) ht (by decide)⟩, if_neg h2]
  obtain ⟨σ', g1, g2, g3, g4⟩ := P_op (X_addShop h hI.caps hG.cles (nI x) (nI y) (nI o) (nI c) (nI t)) (G_addShop hG (nI x) (nI y) (nI o) (nI c) (nI t)).1 e
  refine ⟨σ', _, g1, g2, fun q hq => ?_, ?_, g3, ?_⟩
  · rw [upd_ne _ _ (by omega), upd_ne _ _ (by omega), upd_ne _ _ (by omega), upd_ne _ _ (by omega), upd_ne _ _ (by omega), upd_ne _ _ (by omega)]
  · unfold cS
    rw [upd_ne _ _ (by omega), upd_ne _ _ (by omega), upd_ne _ _ (by omega), upd_ne _ _ (by omega), upd_ne _ _ (by omega), upd_at]
    exact nI_clamp (show (s 7).toNatClampNeg + 1 < 2 ^ 31 by
      have : (s 7).toNatClampNeg < 7 := hs
      omega)
  · intro β K
    rw [← e7]
    exact g4 K
