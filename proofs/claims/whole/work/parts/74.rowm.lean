/-! ===== THE ROW OF DOUGHS: the model, and both ===== -/
theorem M_cleans {N : Nat} {σ : xSt} {H : List sS} {s : sS} {tx : (Nat → Int32) × Nat} (h : RM σ (H, s, tx)) (hI : Inv N s) {i j : Nat} (hi : i < cR s) (hj : j < cR s) : fX12_cleans (nI i) (nI j) σ = some (nI (cln (mN (al s i) (al s j))), σ) := by
  have h6 := hI.caps.1
  have a1 := al_b hI hi
  have a2 := al_b hI hj
  have e1 : σ 1 (43 + i) = nI (al s i) := (M_at2 h (by omega)).trans a1.1
  have e2 : σ 1 (43 + j) = nI (al s j) := (M_at2 h (by omega)).trans a2.1
  obtain ⟨m1, m2⟩ := mN_fin _ a1.2 _ a2.2
  unfold fX12_cleans
  rw [show (43 : Int32) = nI 43 from rfl, nI_add, xr_n (by omega) (by decide), e1, nI_add, xr_n (by omega) (by decide), e2, xl_t, m1, (cln_fin _ m2).1]
theorem M_priceLoop {N : Nat} {σ : xSt} {H : List sS} {s : sS} {tx : (Nat → Int32) × Nat} (h : RM σ (H, s, tx)) (hI : Inv N s) {l : List Nat} (hr : rowIs σ l) (hl : ∀ k, k < l.length → gl l k < cR s) : ∀ (d k n : Nat) (a : Int32), k + d = l.length → 1 ≤ k → d < n → 0 ≤ a.toInt → a.toInt ≤ 14 * k → ∃ r, fX12_priceOfRow_c4 n a (nI k) σ = some (r, σ) ∧ runP s (gl l (k - 1)) a.toInt (l.drop k) = some r.toInt ∧ bt r 0 2000 := by
  obtain ⟨h7, h18, hk⟩ := id hr
  have h6 := hI.caps.1
  intro d
  induction d with
  | zero =>
    intro k n a hkd hk1 hn ha0 ha1
    obtain ⟨n, rfl⟩ : ∃ z, n = z + 1 := ⟨n - 1, by omega⟩
    obtain rfl : k = l.length := by omega
    rw [fX12_priceOfRow_c4_s, h18, if_pos (nI_le (Nat.le_refl _) (by omega)), List.drop_length]
    exact ⟨a, rfl, rfl, ha0, by omega⟩
  | succ d ih =>
    intro k n a hkd hk1 hn ha0 ha1
    obtain ⟨n, rfl⟩ : ∃ z, n = z + 1 := ⟨n - 1, by omega⟩
    have hkl : k < l.length := by omega
    have g0 := hl (k - 1) (by omega)
    have g1 := hl k hkl
    have pcb := pc_b hI (Or.inr g0) g1
    have cb1 := (cln_fin _ (mN_fin _ (al_b hI g0).2 _ (al_b hI g1).2).2).2.1
    have ep : (nI (cln (mN (al s (gl l (k - 1))) (al s (gl l k))))).toInt = pc s (gl l (k - 1)) (gl l k) := by
      unfold pc
      rw [if_neg (by omega), nI_toInt (by omega)]
    have t : (a + nI (cln (mN (al s (gl l (k - 1))) (al s (gl l k))))).toInt = a.toInt + pc s (gl l (k - 1)) (gl l k) := by rw [i32_add (by rw [ep]; omega) (by rw [ep]; omega), ep]
    rw [gl_drop hkl, fX12_priceOfRow_c4_s, h18, if_neg (nI_ge hkl (by omega)), show nI k - 1 = nI (k - 1) from by
      obtain ⟨z, hz⟩ : ∃ z, k = z + 1 := ⟨k - 1, by omega⟩
      rw [hz]; exact nI_pred z, xr_n (by omega) (by decide), (hk (k - 1) (by omega)).2, xr_n (by omega) (by decide), (hk k hkl).2, M_cleans h hI g0 g1, xc2_t, xl_t, xl_t, nI_1]
    have g := ih (k + 1) n _ (by omega) (by omega) (by omega) (by rw [t]; omega) (by rw [t]; omega)
    rw [show k + 1 - 1 = k by omega] at g
    obtain ⟨r, r1, r2, r3⟩ := g
    rw [t] at r2
    exact ⟨r, r1, r2, r3⟩
theorem M_priceOfRow {N : Nat} {σ : xSt} {H : List sS} {s : sS} {tx : (Nat → Int32) × Nat} (h : RM σ (H, s, tx)) (hI : Inv N s) {l : List Nat} (hr : rowIs σ l) (hl : ∀ k, k < l.length → gl l k < cR s) : ∃ r, fX12_priceOfRow σ = some (r, σ) ∧ runP s 7 0 l = some r.toInt ∧ bt r 0 2000 := by
  obtain ⟨h7, h18, hk⟩ := id hr
  unfold fX12_priceOfRow
  by_cases c : l.length = 0
  · have e : l = [] := List.length_eq_zero_iff.mp c
    refine ⟨0, ?_, ?_, by decide, by decide⟩
    · show fX12_priceOfRow_c4 (8191 + 1) 0 1 σ = _
      rw [fX12_priceOfRow_c4_s, h18, if_pos (show nI l.length ≤ 1 by rw [c]; decide)]
    · rw [e]; rfl
  · obtain ⟨r, r1, r2, r3⟩ := M_priceLoop h hI hr hl (l.length - 1) 1 xFU 0 (by omega) (Nat.le_refl 1) (by show _ < 8192; omega) (by decide) (by decide)
    refine ⟨r, r1, ?_, r3⟩
    have e : runP s 7 0 (l.drop 0) = runP s (gl l 0) (0 + pc s 7 (gl l 0)) (l.drop 1) := by rw [gl_drop (show 0 < l.length by omega)]; rfl
    have e : runP s 7 0 l = runP s (gl l 0) (0 + pc s 7 (gl l 0)) (l.drop 1) := e
    rw [e, show pc s 7 (gl l 0) = 0 from if_pos rfl]
    exact r2
theorem okT_iff {V : Nat} {l : List Nat} (h : okT V l = true) : l.length = (remS V).length ∧ ∀ k, k < l.length → gl l k < 6 ∧ bV V (gl l k) = true := by
  unfold okT at h
  rw [Bool.and_eq_true] at h
  have h2 := List.all_eq_true.mp h.2
  refine ⟨eq_of_beq h.1, fun k hk => ?_⟩
  have g := h2 _ (gl_mem hk)
  rw [Bool.and_eq_true] at g
  exact ⟨of_decide_eq_true g.1, g.2⟩
theorem M_rowStep {N : Nat} {H : List sS} {s : sS} {tx : (Nat → Int32) × Nat} (hI : Inv N s) {V : Nat} (hVR : ∀ a, a < 6 → bV V a = true → a < cR s) {l : List Nat} {n : Nat} {σ : xSt} {b : Option (Int × List Nat)} (hok : okT V l = true) (h : RM σ (H, s, tx)) (hr : rowIs σ l) (hb : mwB (remS V).length σ b) : ∃ σ1, fX12_rows_c56 (n + 1) 1 σ = fX12_rows_c78 (fX12_rows_c56 n) σ1 ∧ RM σ1 (H, s, tx) ∧ fR σ σ1 ∧ rowIs σ1 l ∧ mwB (remS V).length σ1 (stB b (runP s 7 0 l) ([] ++ l)) := by
  obtain ⟨hlen, hel⟩ := okT_iff hok
  obtain ⟨r, e1, g2, g3⟩ := M_priceOfRow h hI hr (fun k hk => hVR _ (hel k hk).1 (hel k hk).2)
  have k2 := g3.1
  have k3 := g3.2
  rw [fX12_rows_c56_s, if_neg (show ¬ (1 : Int32) = 0 by decide), e1, xc2_t, g2]
  have keep : stB b (some r.toInt) ([] ++ l) = some (r.toInt, l) → ¬ σ 0 19 ≤ r → ∃ σ1, (if σ 0 19 ≤ r then fX12_rows_c78 (fX12_rows_c56 n) σ else xc (fX12_keepsRow r σ) fun σ9 => fX12_rows_c78 (fX12_rows_c56 n) σ9) = fX12_rows_c78 (fX12_rows_c56 n) σ1 ∧ RM σ1 (H, s, tx) ∧ fR σ σ1 ∧ rowIs σ1 l ∧ mwB (remS V).length σ1 (stB b (some r.toInt) ([] ++ l)) := fun hs hn => by
    obtain ⟨σ1, a1, a2, a3, a4, a5⟩ := M_keepsRow h hr r g3
    rw [hlen] at a5
    rw [if_neg hn, a1, xc_t, hs]
    exact ⟨σ1, rfl, a2, a3, a4, a5⟩
  cases b with
  | none =>
    have hb0 : σ 0 19 = 2000000000 := hb
    exact keep rfl (by rw [hb0, fa_le]; show ¬ (2000000000 : Int) ≤ r.toInt; omega)
  | some b =>
    obtain ⟨e0, w0⟩ := b
    obtain ⟨j1, j2, j3, j4⟩ := id hb
    by_cases c : r.toInt < e0
    · refine keep ?_ (by rw [fa_le, j1]; omega)
      show (if r.toInt < e0 then some (r.toInt, [] ++ l) else some (e0, w0)) = _
      rw [if_pos c]; rfl
    · refine ⟨σ, ?_, h, fR.refl σ, hr, ?_⟩
      · rw [if_pos (by rw [fa_le, j1]; omega)]
      · show mwB (remS V).length σ (if r.toInt < e0 then some (r.toInt, [] ++ l) else some (e0, w0))
        rw [if_neg c]; exact hb
theorem M_rowLoop {N : Nat} {H : List sS} {s : sS} {tx : (Nat → Int32) × Nat} (hI : Inv N s) {V : Nat} (hVR : ∀ a, a < 6 → bV V a = true → a < cR s) : ∀ (t : List (List Nat)) (l : List Nat) (n : Nat) (σ : xSt) (b : Option (Int × List Nat)), chn (l :: t) = true → (l :: t).all (okT V) = true → t.length + 1 < n → RM σ (H, s, tx) → rowIs σ l → mwB (remS V).length σ b → ∃ σ', fX12_rows_c56 n 1 σ = some σ' ∧ RM σ' (H, s, tx) ∧ fR σ σ' ∧ mwB (remS V).length σ' (bs (runP s 7 0) [] b (l :: t)) ∧ σ' 0 18 = nI (remS V).length := by
  intro t
  induction t with
  | nil =>
    intro l n σ b hch hok hn h hr hb
    obtain ⟨n, rfl⟩ : ∃ z, n = z + 1 + 1 := ⟨n - 2, by have : 0 + 1 < n := hn; omega⟩
    rw [List.all_cons, Bool.and_eq_true] at hok
    obtain ⟨σ1, a1, a2, a3, a4, a5⟩ := M_rowStep (n := n + 1) hI hVR hok.1 h hr hb
    have nr := (M_nextRow a4).1 (chn_one hch)
    rw [a1]
    unfold fX12_rows_c78
    rw [nr, xc2_t, fX12_rows_c56_s, if_pos rfl]
    exact ⟨σ1, rfl, a2, a3, a5, by rw [← (okT_iff hok.1).1]; exact a4.2.1⟩
  | cons l' t ih =>
    intro l n σ b hch hok hn h hr hb
    have hn : t.length + 1 + 1 < n := hn
    obtain ⟨n, rfl⟩ : ∃ z, n = z + 1 := ⟨n - 1, by omega⟩
    rw [List.all_cons, Bool.and_eq_true] at hok
    obtain ⟨σ1, a1, a2, a3, a4, a5⟩ := M_rowStep (n := n) hI hVR hok.1 h hr hb
    obtain ⟨c1, c2⟩ := chn_two hch
    obtain ⟨σ2, b1, b2, b3⟩ := (M_nextRow a4).2 l' c1
    have f2 : fR σ1 σ2 := ⟨fun q h1 h3 => b3 q (by omega), fun k _ => by rw [b3 0 (by decide)]⟩
    obtain ⟨σ3, d1, d2, d3, d4, d5⟩ := ih l' n σ2 _ c2 hok.2 (by omega) (a2.scr2 f2) b2 (a5.frame (by rw [b3 0 (by decide)]) (b3 12 (by decide)))
    refine ⟨σ3, ?_, d2, (a3.trans f2).trans d3, d4, d5⟩
    rw [a1]
    unfold fX12_rows_c78
    rw [b1, xc2_t]
    exact d1
theorem rowIs_app {σ : xSt} {l : List Nat} (h : rowIs σ l) (h6 : l.length ≤ 6) {a : Nat} (ha : a < 8) : rowIs (xu (xu σ 11 l.length (nI a)) 0 18 (nI (l.length + 1))) (l ++ [a]) := by
  obtain ⟨-, h18, hk⟩ := h
  have l1 : (l ++ [a]).length = l.length + 1 := by rw [List.length_append, List.length_singleton]
  refine ⟨by omega, by rw [xu_at, upd_at, l1], fun k hk2 => ?_⟩
  rw [l1] at hk2
  rw [gl_app, xu_ne _ _ _ (by decide), xu_at]
  by_cases e : k = l.length
  · rw [if_neg (by omega), if_pos e, e, upd_at]; exact ⟨ha, rfl⟩
  · rw [if_pos (by omega), upd_ne _ _ e]; exact hk k (by omega)
theorem M_rowInit {H : List sS} {s : sS} {tx : (Nat → Int32) × Nat} {V : Nat} (hV : V < 64) : ∀ (d k n : Nat) (σ : xSt), k + d = 6 → d < n → RM σ (H, s, tx) → rowIs σ ((rg 0 k).filter (fun a => bV V a)) → ∃ σ1, fX12_rows_c7 n (nI V) (nI k) σ = fX12_rows_c56 xFU 1 (xu σ1 0 19 2000000000) ∧ RM σ1 (H, s, tx) ∧ fR σ σ1 ∧ rowIs σ1 (remS V) := by
  intro d
  induction d with
  | zero =>
    intro k n σ hk hn h hr
    obtain ⟨n, rfl⟩ : ∃ z, n = z + 1 := ⟨n - 1, by omega⟩
    obtain rfl : k = 6 := by omega
    rw [fX12_rows_c7_s, if_pos (show (6 : Int32) ≤ nI 6 by decide), xp_t]
    exact ⟨σ, rfl, h, fR.refl σ, hr⟩
  | succ d ih =>
    intro k n σ hk hn h hr
    obtain ⟨n, rfl⟩ : ∃ z, n = z + 1 := ⟨n - 1, by omega⟩
    have hk6 : k < 6 := by omega
    have b6 := bit6 V hV k hk6
    obtain ⟨p1, p2, p3⟩ := remS_pre V hV k hk6
    rw [fX12_rows_c7_s, if_neg (show ¬ (6 : Int32) ≤ nI k from nI_ge (a := k) (b := 6) hk6 (by decide))]
    cases hc : bV V k with
    | true =>
      rw [hc, if_pos rfl] at p1
      have ap := rowIs_app hr (by omega) (a := k) (by omega)
      rw [← p1] at ap
      have f1 : fR σ (xu (xu σ 11 ((rg 0 k).filter (fun a => bV V a)).length (nI k)) 0 18 (nI (((rg 0 k).filter (fun a => bV V a)).length + 1))) := ((fR.refl σ).xu 11 _ _ (by omega)).xu 0 18 _ (by decide)
      obtain ⟨σ1, a1, a2, a3, a4⟩ := ih (k + 1) n _ (by omega) (by omega) (h.scr2 f1) ap
      refine ⟨σ1, ?_, a2, f1.trans a3, a4⟩
      rw [if_pos (b6.2.1.mpr hc), hr.2.1, xs_n (by omega) (by decide), xp_t, xu_ne _ _ _ (by decide), hr.2.1, nI_1, xl_t, nI_1]
      exact a1
    | false =>
      rw [hc, if_neg (by decide)] at p1
      rw [← p1] at hr
      obtain ⟨σ1, a1, a2, a3, a4⟩ := ih (k + 1) n _ (by omega) (by omega) h hr
      refine ⟨σ1, ?_, a2, a3, a4⟩
      rw [if_neg (fun h9 => by rw [b6.2.1, hc] at h9; exact absurd h9 (by decide)), xl_t, nI_1]
      exact a1
theorem M_rows {N : Nat} {σ : xSt} {H : List sS} {s : sS} {tx : (Nat → Int32) × Nat} (h : RM σ (H, s, tx)) (hI : Inv N s) {V : Nat} (hV : V < 64) (hVR : ∀ a, a < 6 → bV V a = true → a < cR s) : ∃ σ', fX12_rows (nI V) σ = some σ' ∧ RM σ' (H, s, tx) ∧ fR σ σ' ∧ mwB (remS V).length σ' (bestR s V) ∧ σ' 0 18 = nI (remS V).length := by
  have f1 : fR σ (xu σ 0 18 0) := (fR.refl σ).xu 0 18 _ (by decide)
  obtain ⟨σ1, a1, a2, a3, a4⟩ := M_rowInit (H := H) (tx := tx) (s := s) hV 6 0 xFU (xu σ 0 18 0) rfl (by decide) (h.scr2 f1) ⟨Nat.zero_le 7, by rw [xu_at, upd_at]; rfl, fun k hk => absurd hk (Nat.not_lt_zero k)⟩
  have f2 : fR σ1 (xu σ1 0 19 2000000000) := (fR.refl σ1).xu 0 19 _ (by decide)
  obtain ⟨q1, q2, q3, q4⟩ := chn_set V hV
  unfold fX12_rows
  rw [xp_t, show fX12_rows_c7 xFU (nI V) 0 (xu σ 0 18 0) = _ from a1]
  unfold bestR
  cases hL : prm (remS V).length (remS V) with
  | nil => rw [hL] at q4; exact nomatch q4
  | cons l t =>
    rw [hL] at q1 q2 q3 q4
    have q4 : some l = some (remS V) := q4
    cases q4
    have q3 : t.length + 1 ≤ 720 := q3
    obtain ⟨σ2, b1, b2, b3, b4, b5⟩ := M_rowLoop (tx := tx) (H := H) hI hVR t (remS V) xFU (xu σ1 0 19 2000000000) none q1 q2 (by show _ < 8192; omega) (a2.scr2 f2) (a4.frame (by rw [xu_at, upd_ne _ _ (by decide)]) (xu_ne _ _ _ (by decide))) (by show xu σ1 0 19 2000000000 0 19 = 2000000000; rw [xu_at, upd_at])
    exact ⟨σ2, b1, b2, ((f1.trans a3).trans f2).trans b3, b4, b5⟩
/-- there is always a row -/
theorem bs_some {run : List Nat → Option Int} {pre : List Nat} (hrun : ∀ c, run c ≠ none) : ∀ (L : List (List Nat)) (b : Option (Int × List Nat)), (b ≠ none ∨ L ≠ []) → bs run pre b L ≠ none
  | [], b, h => by
    rcases h with h | h
    · exact h
    · exact absurd rfl h
  | c :: t, b, _ => by
    refine bs_some hrun t _ (Or.inl ?_)
    cases hr : run c with
    | none => exact absurd hr (hrun c)
    | some e =>
      cases b with
      | none => exact fun h9 => nomatch h9
      | some b =>
        obtain ⟨e0, w0⟩ := b
        show (if e < e0 then some (e, pre ++ c) else some (e0, w0)) ≠ none
        split
        · exact fun h9 => nomatch h9
        · exact fun h9 => nomatch h9
theorem runP_some (s : sS) : ∀ (l : List Nat) (f : Nat) (m : Int), runP s f m l ≠ none
  | [], _, _ => fun h9 => nomatch h9
  | a :: l, f, m => runP_some s l a (m + pc s f a)
theorem bestR_some (s : sS) {V : Nat} (hV : V < 64) : ∃ e p, bestR s V = some (e, p) := by
  have q4 := (chn_set V hV).2.2.2
  have h := bs_some (run := runP s 7 0) (pre := []) (fun c => runP_some s c 7 0) (prm (remS V).length (remS V)) none (Or.inr (fun h9 => by rw [h9] at q4; exact nomatch q4))
  unfold bestR
  cases hb : bs (runP s 7 0) [] none (prm (remS V).length (remS V)) with
  | none => exact absurd hb h
  | some b => exact ⟨b.1, b.2, rfl⟩
theorem set_of {N : Nat} {s : sS} (hI : Inv N s) {p0 : Int32} (h : 0 ≤ p0 ∧ p0 ≤ ((1 : Int32) <<< ((s 5) &&& 31)) - 1) : ∃ V, V < 64 ∧ p0 = nI V ∧ ∀ a, a < 6 → bV V a = true → a < cR s := by
  have h6 := hI.caps.1
  have e5 : s 5 = nI (cR s) := hI.caps.2.2.2.2.2.1
  obtain ⟨c1, c2, c3, c4⟩ := cV_full (cR s) (by omega)
  obtain ⟨d1, d2⟩ := set_lt (cR s) (by omega)
  have hp := Nat.two_pow_pos (cR s)
  rw [e5, c3, fa_le, fa_le, nI_toInt (by omega)] at h
  have h0 : (0 : Int) ≤ p0.toInt := h.1
  refine ⟨p0.toInt.toNat, by omega, nI_ofZ rfl h0, d2 _ (by omega)⟩
theorem XM_cleaning {N : Nat} {σ τ : xSt} {H : List sS} {s : sS} {tx : (Nat → Int32) × Nat} (hx : RX σ (H, s, tx)) (hm : RM τ (H, s, tx)) (hI : Inv N s) (p0 : Int32) : ∃ o, XR (fX11_cleaning p0 σ) (o, (H, s, tx)) ∧ MR (fX12_cleaning p0 τ) 9 1 9 9 (o, (H, s, tx)) ∧ ∀ k, o = .inr k → k = 1 := by
  have a5 : σ 4 7 = s 5 := X_at_nrec hx
  have b5 : τ 1 5 = s 5 := M_at2 hm (by decide)
  unfold fX11_cleaning fX12_cleaning fX11_isSetOfRecipes fX12_isSet
  rw [a5, X_isWithin, xc2_t, xb_t x10b, xc2_t, show (5 : Int32) = nI 5 from rfl, xr_n (by decide) (by decide), b5, M_in, xc2_t, xb_t x10b, xc2_t]
  by_cases g : 0 ≤ p0 ∧ p0 ≤ ((1 : Int32) <<< ((s 5) &&& 31)) - 1
  · obtain ⟨V, hV, rfl, hVR⟩ := set_of hI g
    rw [if_pos g, X_needArgument1, xct_l, M_can1, xc2_t, if_neg (show ¬ (1 : Int32) = 0 by decide)]
    obtain ⟨σ1, x1, x2, x3, x4⟩ := X_find hx hI hV hVR
    obtain ⟨τ1, m1, m2, m3, m4, m5⟩ := M_rows (hm.raised 0) hI hV hVR
    rw [x1, xc_t, m1, xc_t]
    obtain ⟨e, p, he⟩ := bestR_some s hV
    rw [he] at x3 m4
    exact ⟨.inl (σ1 46 3), ⟨σ1, rfl, x2⟩, ⟨_, τ1, rfl, m2, by rw [m3.2 0 (by decide), xu_at, upd_at]; rfl, fun v hv => (Sum.inl.inj hv).symm.trans ((fa_eq _ _).mpr (x3.1.trans m4.1.symm))⟩, fun k hk => nomatch hk⟩
  · rw [if_neg g, X_needArgument0, xct_r, M_can0, xc2_t, if_pos rfl]
    exact ⟨.inr 1, ⟨σ, rfl, hx⟩, ⟨_, _, rfl, hm.raised 1, rfl, fun v hv => nomatch hv⟩, fun k hk => by cases hk; decide⟩
theorem XM_rowAt {N : Nat} {σ τ : xSt} {H : List sS} {s : sS} {tx : (Nat → Int32) × Nat} (hx : RX σ (H, s, tx)) (hm : RM τ (H, s, tx)) (hI : Inv N s) (p0 p1 : Int32) : ∃ o, XR (fX11_rowAt p0 p1 σ) (o, (H, s, tx)) ∧ MR (fX12_rowAt p0 p1 τ) 2 1 9 9 (o, (H, s, tx)) ∧ ∀ k, o = .inr k → k = 1 ∨ k = 0 := by
  have a5 : σ 4 7 = s 5 := X_at_nrec hx
  have b5 : τ 1 5 = s 5 := M_at2 hm (by decide)
  unfold fX11_rowAt fX12_rowAt fX11_isSetOfRecipes fX12_isSet
  rw [a5, X_isWithin, xc2_t, xb_t x10b, xc2_t, show (5 : Int32) = nI 5 from rfl, xr_n (by decide) (by decide), b5, M_in, xc2_t, xb_t x10b, xc2_t]
  by_cases g : 0 ≤ p0 ∧ p0 ≤ ((1 : Int32) <<< ((s 5) &&& 31)) - 1
  · obtain ⟨V, hV, rfl, hVR⟩ := set_of hI g
    have hl := (remS_len V hV).1
    rw [if_pos g, X_needArgument1, xct_l, M_can1, xc2_t, if_neg (show ¬ (1 : Int32) = 0 by decide), X_bitCount hV, xc2_t, X_isWithin, xc2_t]
    obtain ⟨τ1, m1, m2, m3, m4, m5⟩ := M_rows (hm.raised 0) hI hV hVR
    rw [m1, xc_t, m5, M_in, xc2_t]
    by_cases c : 0 ≤ p1 ∧ p1 ≤ nI (remS V).length - 1
    · obtain ⟨k, hk, rfl⟩ := x_cnt rfl (by omega) c
      obtain ⟨σ1, x1, x2, x3, x4⟩ := X_find hx hI hV hVR
      obtain ⟨e, p, he⟩ := bestR_some s hV
      rw [he] at x3 m4
      have k1 := x3.2.2.2.2 k hk
      have k2 := m4.2.2.2.2 k hk
      rw [if_pos c, X_needIndex1, xct_l, M_can1, xc2_t, if_neg (show ¬ (1 : Int32) = 0 by decide), x1, xc_t, xr_n (by omega) (by decide), k1.2, xr_n (by omega) (by decide), xu_ne _ _ _ (by decide), k2.2]
      exact ⟨.inl (nI (gl p k)), ⟨σ1, rfl, x2⟩, ⟨_, _, rfl, m2.raised 0, rfl, fun v hv => (Sum.inl.inj hv).symm⟩, fun k hk => nomatch hk⟩
    · rw [if_neg c, X_needIndex0, xct_r, M_can0, xc2_t, if_pos rfl]
      exact ⟨.inr 0, ⟨σ, rfl, hx⟩, ⟨_, _, rfl, m2.raised 2, rfl, fun v hv => nomatch hv⟩, fun k hk => by cases hk; decide⟩
  · rw [if_neg g, X_needArgument0, xct_r, M_can0, xc2_t, if_pos rfl]
    exact ⟨.inr 1, ⟨σ, rfl, hx⟩, ⟨_, _, rfl, hm.raised 1, rfl, fun v hv => nomatch hv⟩, fun k hk => by cases hk; decide⟩
