/-! ===== THE ROW OF DOUGHS: the class ===== -/
theorem X_clLoop {M : Nat} (hM : M < 16) (σ : xSt) : ∀ (d k n : Nat), k + d = 4 → d < n → fX9_priceBetween_c28 n (nI M) (nI (clP M k)) (nI k) σ = some (nI (clP M 4), σ) := by
  intro d
  induction d with
  | zero =>
    intro k n hk hn
    obtain ⟨n, rfl⟩ : ∃ z, n = z + 1 := ⟨n - 1, by omega⟩
    obtain rfl : k = 4 := by omega
    rw [fX9_priceBetween_c28_s, if_pos (show (4 : Int32) ≤ nI 4 by decide)]
  | succ d ih =>
    intro k n hk hn
    obtain ⟨n, rfl⟩ : ∃ z, n = z + 1 := ⟨n - 1, by omega⟩
    have b6 := bit6 M (by omega) k (by omega)
    have ih := ih (k + 1) n (by omega) (by omega)
    have es : clP M (k + 1) = clP M k + (if bV M k then ([3, 5, 2, 4] : List Nat).getD k 0 else 0) := rfl
    rw [es] at ih
    rw [fX9_priceBetween_c28_s, if_neg (show ¬ (4 : Int32) ≤ nI k from nI_ge (a := k) (b := 4) (by omega) (by decide))]
    cases hb : bV M k with
    | false =>
      rw [hb, if_neg (by decide), Nat.add_zero] at ih
      rw [if_pos (b6.1.mpr hb), xl_t, nI_1]
      exact ih
    | true =>
      rw [hb, if_pos rfl] at ih
      rw [if_neg (fun h9 => by rw [b6.1, hb] at h9; exact absurd h9 (by decide)), xrs_t (xin_n (by omega) (by decide)), nI_clamp (by omega), pri_fin k (by omega), xl_t, xl_t, nI_1, nI_add]
      exact ih
theorem X_priceBetween {N : Nat} {σ : xSt} {H : List sS} {s : sS} {tx : (Nat → Int32) × Nat} (h : RX σ (H, s, tx)) (hI : Inv N s) {i j : Nat} (hi : i < cR s) (hj : j < cR s) : fX9_priceBetween (nI i) (nI j) σ = some (nI (cln (mN (al s i) (al s j))), σ) := by
  have h6 := hI.caps.1
  have a1 := al_b hI hi
  have a2 := al_b hI hj
  have e1 : σ 9 i = nI (al s i) := (h.2.1.2.2.2.2.1 i hi).trans a1.1
  have e2 : σ 9 j = nI (al s j) := (h.2.1.2.2.2.2.1 j hj).trans a2.1
  obtain ⟨m1, m2⟩ := mN_fin _ a1.2 _ a2.2
  unfold fX9_priceBetween
  rw [xr_n (by omega) (by decide), e1, xr_n (by omega) (by decide), e2, xl_t, m1, ← (cln_fin _ m2).2.2]
  exact X_clLoop m2 σ 4 0 xFU rfl (by decide)
def pB (n : Nat) (σ : xSt) : Option (Int × List Nat) → Prop
  | none => σ 46 3 = -1
  | some (e, p) => (σ 46 3).toInt = e ∧ 0 ≤ e ∧ e ≤ 2000 ∧ p.length = n ∧ ∀ k, k < n → gl p k < 8 ∧ σ 48 k = nI (gl p k)
theorem pB.frame {n : Nat} {σ σ' : xSt} {b : Option (Int × List Nat)} (h : pB n σ b) (h1 : σ' 46 3 = σ 46 3) (h2 : σ' 48 = σ 48) : pB n σ' b := by
  cases b with
  | none => show σ' 46 3 = -1; rw [h1]; exact h
  | some b =>
    obtain ⟨e, p⟩ := b
    show (σ' 46 3).toInt = e ∧ 0 ≤ e ∧ e ≤ 2000 ∧ p.length = n ∧ ∀ k, k < n → gl p k < 8 ∧ σ' 48 k = nI (gl p k)
    rw [h1, h2]
    exact h
theorem remS_mem {V a : Nat} : a ∈ remS V ↔ a < 6 ∧ bV V a = true := by
  unfold remS
  rw [List.mem_filter, rg_mem]
  constructor
  · intro ⟨h1, h2⟩; exact ⟨by omega, h2⟩
  · intro ⟨h1, h2⟩; exact ⟨by omega, h2⟩
theorem lastS_lt {w : List Nat} {n : Nat} (h : ∀ k, k < w.length → gl w k < n) : lastS w = 7 ∨ lastS w < n := by
  unfold lastS
  by_cases c : w.length = 0
  · rw [if_pos c]; exact Or.inl rfl
  · rw [if_neg c]; exact Or.inr (h _ (by omega))
/-- the loop over the recipes that may be next -/
theorem X_recs {N : Nat} {H : List sS} {s : sS} {tx : (Nat → Int32) × Nat} (hI : Inv N s) {fr : Int32 → Int32 → Int32 → xSt → Option xSt} {w : List Nat} {m V t : Nat} {pr : Int32} (ht : t ≤ 6) (hw : w.length + (m + 1) = t) (hV : V < 64) (hVR : ∀ a, a < 6 → bV V a = true → a < cR s) (hpr : 0 ≤ pr.toInt ∧ pr.toInt ≤ 14 * w.length) (hwR : ∀ k, k < w.length → gl w k < cR s) (IH : ∀ (a : Nat) (pr' : Int32) (σ : xSt) (b : Option (Int × List Nat)), a < 6 → bV V a = true → (∀ k, k < (w ++ [a]).length → gl (w ++ [a]) k < cR s ∧ σ 47 k = nI (gl (w ++ [a]) k)) → RX σ (H, s, tx) → pr'.toInt = pr.toInt + pc s (lastS w) a → pB t σ b → ∃ σ', fr (nI (w.length + 1)) (nI (cB V a)) pr' σ = some σ' ∧ RX σ' (H, s, tx) ∧ pB t σ' (bs (runP s a pr'.toInt) (w ++ [a]) b (prm m (remS (cB V a)))) ∧ (∀ k, k < w.length + 1 → σ' 47 k = σ 47 k) ∧ fX σ σ') : ∀ (d j n : Nat) (σ : xSt) (b : Option (Int × List Nat)), j + d = 6 → d < n → (∀ k, k < w.length → σ 47 k = nI (gl w k)) → RX σ (H, s, tx) → pB t σ b → ∃ σ', fX9_goOn_c51 fr n (nI w.length) (nI V) pr (nI j) σ = some σ' ∧ RX σ' (H, s, tx) ∧ pB t σ' (bs (runP s (lastS w) pr.toInt) w b (ext m (remS V) ((rg j d).filter (fun a => bV V a)))) ∧ (∀ k, k < w.length → σ' 47 k = σ 47 k) ∧ fX σ σ' := by
  have h6 := hI.caps.1
  intro d
  induction d with
  | zero =>
    intro j n σ b hj hn hk h hb
    obtain ⟨n, rfl⟩ : ∃ z, n = z + 1 := ⟨n - 1, by omega⟩
    obtain rfl : j = 6 := by omega
    rw [fX9_goOn_c51_s, if_pos (show (6 : Int32) ≤ nI 6 by decide)]
    exact ⟨σ, rfl, h, hb, fun _ _ => rfl, fX.refl σ⟩
  | succ d ih =>
    intro j n σ b hj hn hk h hb
    obtain ⟨n, rfl⟩ : ∃ z, n = z + 1 := ⟨n - 1, by omega⟩
    have b6 := bit6 V hV j (by omega)
    have hj6 : j < 6 := by omega
    rw [fX9_goOn_c51_s, if_neg (show ¬ (6 : Int32) ≤ nI j from nI_ge (a := j) (b := 6) hj6 (by decide))]
    have e1 : ∀ c : Bool, bV V j = c → (rg j (d + 1)).filter (fun a => bV V a) = if c = true then j :: (rg (j + 1) d).filter (fun a => bV V a) else (rg (j + 1) d).filter (fun a => bV V a) := fun c hc => by
      show (j :: rg (j + 1) d).filter (fun a => bV V a) = _
      rw [List.filter_cons, hc]
    cases hc : bV V j with
    | false =>
      rw [if_pos (b6.1.mpr hc), e1 false hc, if_neg (show ¬ false = true by decide), xl_t, nI_1]
      exact ih (j + 1) n σ b (by omega) (by omega) hk h hb
    | true =>
      have hjR := hVR j hj6 hc
      have rf := remS_fin V hV j hj6 hc
      rw [if_neg (show ¬ ((nI V >>> (nI j &&& 31)) &&& 1) = 0 from fun h9 => by rw [b6.1, hc] at h9; exact absurd h9 (by decide)), e1 true hc, if_pos rfl, xs_n (by omega) (by decide)]
      have e2 : ext m (remS V) (j :: (rg (j + 1) d).filter (fun a => bV V a)) = (prm m ((remS V).filter (fun y => y != j))).map (fun c => j :: c) ++ ext m (remS V) ((rg (j + 1) d).filter (fun a => bV V a)) := rfl
      rw [e2, bs_append, bs_map, rf.1]
      have f1 : fX σ (xu σ 47 w.length (nI j)) := (fX.refl σ).xu 47 _ _ (by decide) (fun h9 => absurd h9 (by decide))
      have lw := lastS_lt hwR
      have pcb := pc_b hI lw hjR
      -- behind the price
      have fin : ∀ t0 : Int32, t0.toInt = pc s (lastS w) j → ∃ σ', fX9_goOn_c97 fr (fX9_goOn_c51 fr n) (nI w.length) (nI V) pr (nI j) t0 (xu σ 47 w.length (nI j)) = some σ' ∧ RX σ' (H, s, tx) ∧ pB t σ' (bs (runP s (lastS w) pr.toInt) w (bs (fun c => runP s (lastS w) pr.toInt (j :: c)) (w ++ [j]) b (prm m (remS (cB V j)))) (ext m (remS V) ((rg (j + 1) d).filter (fun a => bV V a)))) ∧ (∀ k, k < w.length → σ' 47 k = σ 47 k) ∧ fX σ σ' := fun t0 h0 => by
        have tp : (pr + t0).toInt = pr.toInt + pc s (lastS w) j := by rw [i32_add (by rw [h0]; omega) (by rw [h0]; omega), h0]
        obtain ⟨σ1, g1, g2, g3, g4, g5⟩ := IH j (pr + t0) (xu σ 47 w.length (nI j)) b hj6 hc (fun k hk2 => by
          rw [List.length_append, List.length_singleton] at hk2
          rw [gl_app, xu_at]
          by_cases e : k = w.length
          · rw [if_neg (by omega), if_pos e, e, upd_at]; exact ⟨hjR, rfl⟩
          · rw [if_pos (by omega), upd_ne _ _ e]; exact ⟨hwR k (by omega), hk k (by omega)⟩) (h.scr f1) tp (hb.frame (by rw [xu_ne _ _ _ (by decide)]) (xu_ne _ _ _ (by decide)))
        have k47 : ∀ k, k < w.length → σ1 47 k = σ 47 k := fun k hk2 => by rw [g4 k (by omega), xu_at, upd_ne _ _ (by omega)]
        rw [bs_congr (run := fun c => runP s (lastS w) pr.toInt (j :: c)) (run' := runP s j (pr + t0).toInt) _ b (fun c _ => by rw [tp]; rfl)]
        obtain ⟨σ2, q1, q2, q3, q4, q5⟩ := ih (j + 1) n σ1 _ (by omega) (by omega) (fun k hk2 => by rw [k47 k hk2]; exact hk k hk2) g2 g3
        refine ⟨σ2, ?_, q2, q3, fun k hk2 => (q4 k hk2).trans (k47 k hk2), (f1.trans g5).trans q5⟩
        unfold fX9_goOn_c97
        rw [nI_1, b6.2.2.1, g1, xc_t, xl_t, nI_1]
        exact q1
      by_cases c0 : w.length = 0
      · rw [if_pos (show nI w.length ≤ 0 by rw [c0]; decide)]
        refine fin 0 ?_
        unfold pc lastS
        rw [if_pos c0, if_pos rfl]; rfl
      · have el : lastS w = gl w (w.length - 1) := if_neg c0
        have gb := hwR (w.length - 1) (by omega)
        rw [if_neg (show ¬ nI w.length ≤ 0 from nI_ge (a := 0) (b := w.length) (by omega) (by omega)), show nI w.length - 1 = nI (w.length - 1) from by
          obtain ⟨z, hz⟩ : ∃ z, w.length = z + 1 := ⟨w.length - 1, by omega⟩
          rw [hz]; exact nI_pred z, xr_n (by omega) (by decide), xu_at, upd_ne _ _ (by omega), hk (w.length - 1) (by omega), X_priceBetween (h.scr f1) hI gb hjR, xc2_t]
        refine fin _ ?_
        unfold pc
        rw [if_neg (by omega), el, nI_toInt (by
          have := (cln_fin _ (mN_fin _ (al_b hI gb).2 _ (al_b hI hjR).2).2).2.1
          omega)]
theorem X_rowGo {N : Nat} {H : List sS} {s : sS} {tx : (Nat → Int32) × Nat} (hI : Inv N s) {t : Nat} (ht : t ≤ 6) : ∀ (m : Nat) (w : List Nat) (V : Nat) (pr : Int32) (d : Nat) (σ : xSt) (b : Option (Int × List Nat)), w.length + m = t → m < d → V < 64 → (remS V).length = m → (∀ a, a < 6 → bV V a = true → a < cR s) → (∀ k, k < w.length → gl w k < cR s ∧ σ 47 k = nI (gl w k)) → RX σ (H, s, tx) → (0 ≤ pr.toInt ∧ pr.toInt ≤ 14 * w.length) → pB t σ b → ∃ σ', fX9_goOn d (nI w.length) (nI V) pr σ = some σ' ∧ RX σ' (H, s, tx) ∧ pB t σ' (bs (runP s (lastS w) pr.toInt) w b (prm m (remS V))) ∧ (∀ k, k < w.length → σ' 47 k = σ 47 k) ∧ fX σ σ' := by
  have h6 := hI.caps.1
  intro m
  induction m with
  | zero =>
    intro w V pr d σ b hw hd hV hr hVR hk h hpr hb
    obtain ⟨d, rfl⟩ : ∃ z, d = z + 1 := ⟨d - 1, by omega⟩
    have hV0 : V = 0 := ((remS_len V hV).2).mp hr
    have yes : bs (runP s (lastS w) pr.toInt) w b (prm 0 (remS V)) = some (pr.toInt, w ++ []) → ∃ σ', fX9_goOn_c17 (fX9_goOn d) (nI w.length) (nI V) pr σ = some σ' ∧ RX σ' (H, s, tx) ∧ pB t σ' (bs (runP s (lastS w) pr.toInt) w b (prm 0 (remS V))) ∧ (∀ k, k < w.length → σ' 47 k = σ 47 k) ∧ fX σ σ' := fun he => by
      rw [he, List.append_nil]
      unfold fX9_goOn_c17 fX9_goOn_c27
      rw [if_pos (show nI V = 0 by rw [hV0]; rfl), xp_t]
      have f1 : fX σ (xu σ 46 3 pr) := (fX.refl σ).xu 46 3 _ (by decide) (fun h9 => absurd h9 (by decide))
      have f2 : fX (xu σ 46 3 pr) (xcp (xu σ 46 3 pr) 47 48 0 0 6) := fX.one 48 (by decide) (by decide) (fun q hq => xcp_ne _ hq)
      refine ⟨xcp (xu σ 46 3 pr) 47 48 0 0 6, ?_, (h.scr f1).scr f2, ⟨by rw [xcp_ne _ (by decide), xu_at, upd_at], hpr.1, by omega, by omega, fun k hk2 => ?_⟩, fun k _ => by rw [xcp_ne _ (by decide), xu_ne _ _ _ (by decide)], f1.trans f2⟩
      · show xcpy (xu σ 46 3 pr) 47 6 (nI 0) 48 6 (nI 0) (nI 6) _ = _
        rw [xcpy_n (by decide) (by decide) (by decide) (by decide)]
      · have hk3 := hk k (by omega)
        refine ⟨by omega, ?_⟩
        rw [xcp_at]
        unfold va_cpy
        rw [if_pos (by omega), show 0 + (k - 0) = k by omega, xu_ne _ _ _ (by decide)]
        exact hk3.2
    rw [fX9_goOn_s]
    cases b with
    | none =>
      have hb0 : σ 46 3 = -1 := hb
      rw [if_pos hb0]
      exact yes rfl
    | some b =>
      obtain ⟨e0, w0⟩ := b
      obtain ⟨k1, k2, k3⟩ := id hb
      rw [if_neg (show ¬ σ 46 3 = -1 from fun h9 => by rw [h9] at k1; have k1 : (-1 : Int) = e0 := k1; omega)]
      by_cases c : pr.toInt < e0
      · rw [if_pos (show pr < σ 46 3 from (fa_lt _ _).mpr (by rw [k1]; exact c))]
        refine yes ?_
        show (if pr.toInt < e0 then some (pr.toInt, w ++ []) else some (e0, w0)) = _
        rw [if_pos c]
      · rw [if_neg (show ¬ pr < σ 46 3 from fun h9 => by rw [fa_lt, k1] at h9; exact c h9)]
        have he : bs (runP s (lastS w) pr.toInt) w (some (e0, w0)) (prm 0 (remS V)) = some (e0, w0) := by
          show (if pr.toInt < e0 then some (pr.toInt, w ++ []) else some (e0, w0)) = _
          rw [if_neg c]
        rw [he]
        exact ⟨σ, rfl, h, hb, fun _ _ => rfl, fX.refl σ⟩
  | succ m ih =>
    intro w V pr d σ b hw hd hV hr hVR hk h hpr hb
    obtain ⟨d, rfl⟩ : ∃ z, d = z + 1 := ⟨d - 1, by omega⟩
    have nV : ¬ V = 0 := fun h9 => by have := ((remS_len V hV).2).mpr h9; omega
    have go : ∃ σ', fX9_goOn_c17 (fX9_goOn d) (nI w.length) (nI V) pr σ = some σ' ∧ RX σ' (H, s, tx) ∧ pB t σ' (bs (runP s (lastS w) pr.toInt) w b (prm (m + 1) (remS V))) ∧ (∀ k, k < w.length → σ' 47 k = σ 47 k) ∧ fX σ σ' := by
      unfold fX9_goOn_c17
      rw [if_neg (show ¬ nI V = 0 from fun h9 => nV ((nI_eq (a := V) (b := 0) (by omega) (by decide)).mp h9)), if_pos (show nI w.length < 6 from nI_lt (a := w.length) (b := 6) (by omega) (by decide))]
      refine X_recs hI (fr := fX9_goOn d) (m := m) ht hw hV hVR hpr (fun k hk2 => (hk k hk2).1) (fun a pr' σ1 b1 ha hbit hk1 h1 hp1 hb1 => ?_) 6 0 xFU σ b rfl (by decide) (fun k hk2 => (hk k hk2).2) h hb
      have r1 := remS_fin V hV a ha hbit
      have l1 : (w ++ [a]).length = w.length + 1 := by rw [List.length_append, List.length_singleton]
      have pcb := pc_b hI (lastS_lt (fun k hk2 => (hk k hk2).1)) (hVR a ha hbit)
      have g := ih (w ++ [a]) (cB V a) pr' d σ1 b1 (by omega) (by omega) (bit6 V hV a ha).2.2.2 (by omega) (fun x hx hbx => by
        have := (remS_mem (V := cB V a)).mpr ⟨hx, hbx⟩
        rw [← r1.1] at this
        have := (remS_mem.mp (List.mem_filter.mp this).1)
        exact hVR x hx this.2) hk1 h1 (by rw [l1, hp1]; omega) hb1
      rw [l1, lastS_app] at g
      exact g
    rw [fX9_goOn_s]
    cases b with
    | none =>
      have hb0 : σ 46 3 = -1 := hb
      rw [if_pos hb0]
      exact go
    | some b =>
      obtain ⟨e0, w0⟩ := b
      obtain ⟨k1, k2, k3⟩ := id hb
      rw [if_neg (show ¬ σ 46 3 = -1 from fun h9 => by rw [h9] at k1; have k1 : (-1 : Int) = e0 := k1; omega)]
      by_cases c : pr.toInt < e0
      · rw [if_pos (show pr < σ 46 3 from (fa_lt _ _).mpr (by rw [k1]; exact c))]
        exact go
      · rw [if_neg (show ¬ pr < σ 46 3 from fun h9 => by rw [fa_lt, k1] at h9; exact c h9)]
        rw [bs_prune _ (fun p e hp he => by
          have := runP_ge hI p (lastS w) pr.toInt e (lastS_lt (fun k hk2 => (hk k hk2).1)) (fun a ha => by
            have := remS_mem.mp (prm_mem _ _ p hp a ha)
            exact hVR a this.1 this.2) he
          omega)]
        exact ⟨σ, rfl, h, hb, fun _ _ => rfl, fX.refl σ⟩
def bestR (s : sS) (V : Nat) : Option (Int × List Nat) := bs (runP s 7 0) [] none (prm (remS V).length (remS V))
theorem X_find {N : Nat} {σ : xSt} {H : List sS} {s : sS} {tx : (Nat → Int32) × Nat} (h : RX σ (H, s, tx)) (hI : Inv N s) {V : Nat} (hV : V < 64) (hVR : ∀ a, a < 6 → bV V a = true → a < cR s) : ∃ σ', fX9_find (nI V) σ = some σ' ∧ RX σ' (H, s, tx) ∧ pB (remS V).length σ' (bestR s V) ∧ fX σ σ' := by
  have hl := (remS_len V hV).1
  have f1 : fX σ (xu σ 46 3 (-1)) := (fX.refl σ).xu 46 3 _ (by decide) (fun h9 => absurd h9 (by decide))
  obtain ⟨σ', e1, e2, e3, e4, e5⟩ := X_rowGo (tx := tx) (H := H) hI hl (remS V).length [] V 0 10 (xu σ 46 3 (-1)) none (Nat.zero_add _) (by omega) hV rfl hVR (fun k hk => absurd hk (Nat.not_lt_zero k)) (h.scr f1) ⟨by decide, by decide⟩ (by show xu σ 46 3 (-1) 46 3 = -1; rw [xu_at, upd_at])
  refine ⟨σ', ?_, e2, e3, f1.trans e5⟩
  unfold fX9_find
  rw [xp_t, show fX9_goOn 10 0 (nI V) 0 (xu σ 46 3 (-1)) = some σ' from e1, xc_t]
