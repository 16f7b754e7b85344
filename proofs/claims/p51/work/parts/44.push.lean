/-! ===== CALLS THAT ADD ===== -/
theorem lvS.congk {σ σ' : xSt} {x : sS} (h : lvS σ x) (e5 : ∀ k, k < cR x → σ' 5 k = σ 5 k) (e6 : ∀ k, k < cR x → σ' 6 k = σ 6 k) (e7 : ∀ k, k < cR x → σ' 7 k = σ 7 k) (e8 : ∀ k, k < cR x → σ' 8 k = σ 8 k) (e9 : ∀ k, k < cR x → σ' 9 k = σ 9 k) (e13 : ∀ k, k < cD x → σ' 13 k = σ 13 k) (e14 : ∀ k, k < cD x → σ' 14 k = σ 14 k) (e39 : ∀ k, k < cS x → σ' 39 k = σ 39 k) (e40 : ∀ k, k < cS x → σ' 40 k = σ 40 k) (e41 : ∀ k, k < cS x → σ' 41 k = σ 41 k) (e42 : ∀ k, k < cS x → σ' 42 k = σ 42 k) (e43 : ∀ k, k < cS x → σ' 43 k = σ 43 k) (e15 : ∀ k, k < cD x → σ' 15 k = σ 15 k) (e36 : ∀ r, r < 6 → ∀ k, k < cN x r → σ' 36 (60 * r + k) = σ 36 (60 * r + k)) : lvS σ' x := by
  obtain ⟨lpiece, llow, lhigh, liheat, lallerg, ldrec, ldpieces, lsx, lsy, lsopen, lsclose, lsstay, ldg, lnote⟩ := h
  exact ⟨fun k hk => (e5 k hk).trans (lpiece k hk), fun k hk => (e6 k hk).trans (llow k hk), fun k hk => (e7 k hk).trans (lhigh k hk), fun k hk => (e8 k hk).trans (liheat k hk), fun k hk => (e9 k hk).trans (lallerg k hk), fun k hk => (e13 k hk).trans (ldrec k hk), fun k hk => (e14 k hk).trans (ldpieces k hk), fun k hk => (e39 k hk).trans (lsx k hk), fun k hk => (e40 k hk).trans (lsy k hk), fun k hk => (e41 k hk).trans (lsopen k hk), fun k hk => (e42 k hk).trans (lsclose k hk), fun k hk => (e43 k hk).trans (lsstay k hk), fun k hk => (e15 k hk).trans (ldg k hk), fun r hr k hk => (e36 r hr k hk).trans (lnote r hr k hk)⟩
/-- no more of anything -/
def cle (x y : sS) : Prop := cR x ≤ cR y ∧ cD x ≤ cD y ∧ cS x ≤ cS y ∧ ∀ r, r < 6 → cN x r ≤ cN y r
theorem cR_at (s : sS) {n : Nat} (h : n < 2147483648) : cR (upd s 5 (nI n)) = n := by unfold cR; rw [upd_at, nI_clamp (by omega)]
theorem cD_at (s : sS) {n : Nat} (h : n < 2147483648) : cD (upd s 6 (nI n)) = n := by unfold cD; rw [upd_at, nI_clamp (by omega)]
theorem cS_at (s : sS) {n : Nat} (h : n < 2147483648) : cS (upd s 7 (nI n)) = n := by unfold cS; rw [upd_at, nI_clamp (by omega)]
theorem cN_at (s : sS) {r n : Nat} (h : n < 2147483648) : cN (upd s (259 + r) (nI n)) r = n := by unfold cN; rw [upd_at, nI_clamp (by omega)]
theorem X_push_recipe {σ : xSt} {H : List sS} {s : sS} {tx : (Nat → Int32) × Nat} (h : RX σ (H, s, tx)) (hc : caps s) (hlt : cR s < 6) (hH : ∀ x ∈ H, cle x s) (p lo hi he al : Int32) : RX (xu (xu (xu (xu (xu (xu σ 5 (cR s) p) 6 (cR s) lo) 7 (cR s) hi) 8 (cR s) he) 9 (cR s) al) 4 7 (nI (cR s + 1))) (H, (upd (upd (upd (upd (upd (upd (upd s 5 (nI (cR s + 1))) (19 + cR s) p) (25 + cR s) lo) (31 + cR s) hi) (37 + cR s) he) (43 + cR s) al) (49 + cR s) 20), tx) := by
  have h : pgS σ s ∧ lvS σ s ∧ RXh σ H ∧ (σ 39 7 = 0 ∧ σ 40 7 = 0) ∧ RXt σ tx := h
  obtain ⟨⟨hgrams, hcame, hsold, hgone, hnrec, hwait, hparts, hndough, hpoints, hstate, hshaped, hwent, htick, hwarmth, hdecks, hheat, hsetHeat, hbreads, hstrength, hcost, hcap, hncount, hnshop⟩, ⟨lpiece, llow, lhigh, liheat, lallerg, ldrec, ldpieces, lsx, lsy, lsopen, lsclose, lsstay, ldg, lnote⟩, ⟨h8, ha, o0, ho8, ho, hh⟩, hbk, ht⟩ := h
  obtain ⟨hcap_cR, hcap_cD, hcap_cS, hcap_cN, hrec, hE5, hE6, hE7, hE9⟩ := hc
  have e_cR : cR (upd (upd (upd (upd (upd (upd (upd s 5 (nI (cR s + 1))) (19 + cR s) p) (25 + cR s) lo) (31 + cR s) hi) (37 + cR s) he) (43 + cR s) al) (49 + cR s) 20) = cR s + 1 := by simp (disch := omega) only [cR_ne, cR_at]
  have e_cD : cD (upd (upd (upd (upd (upd (upd (upd s 5 (nI (cR s + 1))) (19 + cR s) p) (25 + cR s) lo) (31 + cR s) hi) (37 + cR s) he) (43 + cR s) al) (49 + cR s) 20) = cD s := by simp (disch := omega) only [cD_ne, cD_at]
  have e_cS : cS (upd (upd (upd (upd (upd (upd (upd s 5 (nI (cR s + 1))) (19 + cR s) p) (25 + cR s) lo) (31 + cR s) hi) (37 + cR s) he) (43 + cR s) al) (49 + cR s) 20) = cS s := by simp (disch := omega) only [cS_ne, cS_at]
  have e_cN : ∀ r', r' < 6 → cN (upd (upd (upd (upd (upd (upd (upd s 5 (nI (cR s + 1))) (19 + cR s) p) (25 + cR s) lo) (31 + cR s) hi) (37 + cR s) he) (43 + cR s) al) (49 + cR s) 20) r' = cN s r' := by
    intro r' hr'
    simp (disch := omega) only [cN_ne]
  show pgS (xu (xu (xu (xu (xu (xu σ 5 (cR s) p) 6 (cR s) lo) 7 (cR s) hi) 8 (cR s) he) 9 (cR s) al) 4 7 (nI (cR s + 1))) (upd (upd (upd (upd (upd (upd (upd s 5 (nI (cR s + 1))) (19 + cR s) p) (25 + cR s) lo) (31 + cR s) hi) (37 + cR s) he) (43 + cR s) al) (49 + cR s) 20) ∧ lvS (xu (xu (xu (xu (xu (xu σ 5 (cR s) p) 6 (cR s) lo) 7 (cR s) hi) 8 (cR s) he) 9 (cR s) al) 4 7 (nI (cR s + 1))) (upd (upd (upd (upd (upd (upd (upd s 5 (nI (cR s + 1))) (19 + cR s) p) (25 + cR s) lo) (31 + cR s) hi) (37 + cR s) he) (43 + cR s) al) (49 + cR s) 20) ∧ RXh (xu (xu (xu (xu (xu (xu σ 5 (cR s) p) 6 (cR s) lo) 7 (cR s) hi) 8 (cR s) he) 9 (cR s) al) 4 7 (nI (cR s + 1))) H ∧ ((xu (xu (xu (xu (xu (xu σ 5 (cR s) p) 6 (cR s) lo) 7 (cR s) hi) 8 (cR s) he) 9 (cR s) al) 4 7 (nI (cR s + 1))) 39 7 = 0 ∧ (xu (xu (xu (xu (xu (xu σ 5 (cR s) p) 6 (cR s) lo) 7 (cR s) hi) 8 (cR s) he) 9 (cR s) al) 4 7 (nI (cR s + 1))) 40 7 = 0) ∧ RXt (xu (xu (xu (xu (xu (xu σ 5 (cR s) p) 6 (cR s) lo) 7 (cR s) hi) 8 (cR s) he) 9 (cR s) al) 4 7 (nI (cR s + 1))) tx
  refine ⟨⟨?_, ?_, ?_, ?_, ?_, ?_, ?_, ?_, ?_, ?_, ?_, ?_, ?_, ?_, ?_, ?_, ?_, ?_, ?_, ?_, ?_, ?_, ?_⟩, ⟨?_, ?_, ?_, ?_, ?_, ?_, ?_, ?_, ?_, ?_, ?_, ?_, ?_, ?_⟩, ⟨h8, ?_, o0, ho8, ?_, fun i x hi => ?_⟩, ?_, ?_⟩
  · intro k' hk'
    simp (disch := omega) only [xu_ne, xu_at, upd_ne, upd_at]
    exact hgrams k' hk'
  · simp (disch := omega) only [xu_ne, xu_at, upd_ne, upd_at] <;> first | exact hcame | rfl
  · simp (disch := omega) only [xu_ne, xu_at, upd_ne, upd_at] <;> first | exact hsold | rfl
  · simp (disch := omega) only [xu_ne, xu_at, upd_ne, upd_at] <;> first | exact hgone | rfl
  · simp (disch := omega) only [xu_ne, xu_at, upd_ne, upd_at] <;> first | exact hnrec | rfl
  · intro k' hk'
    rw [e_cR]
    by_cases e : k' = cR s
    · subst e
      rw [if_pos (by omega)]
      simp (disch := omega) only [xu_ne, xu_at, upd_ne, upd_at]
      rw [hwait _ hk', if_neg (by omega)]
    · by_cases e2 : k' < cR s
      · rw [if_pos (by omega)]
        simp (disch := omega) only [xu_ne, xu_at, upd_ne, upd_at]
        rw [hwait _ hk', if_pos e2]
      · rw [if_neg (by omega)]
        simp (disch := omega) only [xu_ne, xu_at, upd_ne, upd_at]
        rw [hwait _ hk', if_neg e2]
  · intro k' hk'
    simp (disch := omega) only [xu_ne, xu_at, upd_ne, upd_at]
    exact hparts k' hk'
  · simp (disch := omega) only [xu_ne, xu_at, upd_ne, upd_at] <;> first | exact hndough | rfl
  · intro k' hk'
    simp (disch := omega) only [xu_ne, xu_at, upd_ne, upd_at]
    exact hpoints k' hk'
  · intro k' hk'
    simp (disch := omega) only [xu_ne, xu_at, upd_ne, upd_at]
    exact hstate k' hk'
  · intro k' hk'
    simp (disch := omega) only [xu_ne, xu_at, upd_ne, upd_at]
    exact hshaped k' hk'
  · intro k' hk'
    simp (disch := omega) only [xu_ne, xu_at, upd_ne, upd_at]
    exact hwent k' hk'
  · simp (disch := omega) only [xu_ne, xu_at, upd_ne, upd_at] <;> first | exact htick | rfl
  · simp (disch := omega) only [xu_ne, xu_at, upd_ne, upd_at] <;> first | exact hwarmth | rfl
  · simp (disch := omega) only [xu_ne, xu_at, upd_ne, upd_at] <;> first | exact hdecks | rfl
  · simp (disch := omega) only [xu_ne, xu_at, upd_ne, upd_at] <;> first | exact hheat | rfl
  · simp (disch := omega) only [xu_ne, xu_at, upd_ne, upd_at] <;> first | exact hsetHeat | rfl
  · intro k' hk'
    simp (disch := omega) only [xu_ne, xu_at, upd_ne, upd_at]
    exact hbreads k' hk'
  · intro k' hk'
    simp (disch := omega) only [xu_ne, xu_at, upd_ne, upd_at]
    exact hstrength k' hk'
  · intro k' hk'
    simp (disch := omega) only [xu_ne, xu_at, upd_ne, upd_at]
    exact hcost k' hk'
  · intro k' hk'
    simp (disch := omega) only [xu_ne, xu_at, upd_ne, upd_at]
    exact hcap k' hk'
  · intro k' hk'
    simp (disch := omega) only [xu_ne, xu_at, upd_ne, upd_at]
    exact hncount k' hk'
  · simp (disch := omega) only [xu_ne, xu_at, upd_ne, upd_at] <;> first | exact hnshop | rfl
  · intro k' hk'
    rw [e_cR] at hk'
    by_cases e : k' = cR s
    · subst e
      simp (disch := omega) only [xu_ne, xu_at, upd_ne, upd_at]
    · simp (disch := omega) only [xu_ne, xu_at, upd_ne, upd_at]
      exact lpiece k' (by omega)
  · intro k' hk'
    rw [e_cR] at hk'
    by_cases e : k' = cR s
    · subst e
      simp (disch := omega) only [xu_ne, xu_at, upd_ne, upd_at]
    · simp (disch := omega) only [xu_ne, xu_at, upd_ne, upd_at]
      exact llow k' (by omega)
  · intro k' hk'
    rw [e_cR] at hk'
    by_cases e : k' = cR s
    · subst e
      simp (disch := omega) only [xu_ne, xu_at, upd_ne, upd_at]
    · simp (disch := omega) only [xu_ne, xu_at, upd_ne, upd_at]
      exact lhigh k' (by omega)
  · intro k' hk'
    rw [e_cR] at hk'
    by_cases e : k' = cR s
    · subst e
      simp (disch := omega) only [xu_ne, xu_at, upd_ne, upd_at]
    · simp (disch := omega) only [xu_ne, xu_at, upd_ne, upd_at]
      exact liheat k' (by omega)
  · intro k' hk'
    rw [e_cR] at hk'
    by_cases e : k' = cR s
    · subst e
      simp (disch := omega) only [xu_ne, xu_at, upd_ne, upd_at]
    · simp (disch := omega) only [xu_ne, xu_at, upd_ne, upd_at]
      exact lallerg k' (by omega)
  · intro k' hk'
    rw [e_cD] at hk'
    have hb := hcap_cD
    simp (disch := omega) only [xu_ne, xu_at, upd_ne, upd_at]
    exact ldrec k' hk'
  · intro k' hk'
    rw [e_cD] at hk'
    have hb := hcap_cD
    simp (disch := omega) only [xu_ne, xu_at, upd_ne, upd_at]
    exact ldpieces k' hk'
  · intro k' hk'
    rw [e_cS] at hk'
    have hb := hcap_cS
    simp (disch := omega) only [xu_ne, xu_at, upd_ne, upd_at]
    exact lsx k' hk'
  · intro k' hk'
    rw [e_cS] at hk'
    have hb := hcap_cS
    simp (disch := omega) only [xu_ne, xu_at, upd_ne, upd_at]
    exact lsy k' hk'
  · intro k' hk'
    rw [e_cS] at hk'
    have hb := hcap_cS
    simp (disch := omega) only [xu_ne, xu_at, upd_ne, upd_at]
    exact lsopen k' hk'
  · intro k' hk'
    rw [e_cS] at hk'
    have hb := hcap_cS
    simp (disch := omega) only [xu_ne, xu_at, upd_ne, upd_at]
    exact lsclose k' hk'
  · intro k' hk'
    rw [e_cS] at hk'
    have hb := hcap_cS
    simp (disch := omega) only [xu_ne, xu_at, upd_ne, upd_at]
    exact lsstay k' hk'
  · intro k' hk'
    rw [e_cD] at hk'
    have hb := hcap_cD
    have hb2 := hcap_cR
    have hb3 := hrec k' hk'
    simp (disch := omega) only [xu_ne, xu_at, upd_ne, upd_at]
    exact ldg k' hk'
  · intro r' hr' k' hk'
    rw [e_cN r' hr'] at hk'
    have hb := hcap_cN r' hr'
    simp (disch := omega) only [xu_ne, xu_at, upd_ne, upd_at]
    exact lnote r' hr' k' hk'
  · simp (disch := omega) only [xu_ne]
    exact ha
  · simp (disch := omega) only [xu_ne]
    exact ho
  · obtain ⟨g1, g2⟩ := hh i x hi
    refine ⟨by simp (disch := omega) only [xu_ne]; exact g1, lvS.congk g2 (fun k' hk' => by
      have hb := hH x (List.mem_of_getElem? hi)
      unfold cle at hb
      simp (disch := omega) only [xu_ne, xu_at, upd_ne]) (fun k' hk' => by
      have hb := hH x (List.mem_of_getElem? hi)
      unfold cle at hb
      simp (disch := omega) only [xu_ne, xu_at, upd_ne]) (fun k' hk' => by
      have hb := hH x (List.mem_of_getElem? hi)
      unfold cle at hb
      simp (disch := omega) only [xu_ne, xu_at, upd_ne]) (fun k' hk' => by
      have hb := hH x (List.mem_of_getElem? hi)
      unfold cle at hb
      simp (disch := omega) only [xu_ne, xu_at, upd_ne]) (fun k' hk' => by
      have hb := hH x (List.mem_of_getElem? hi)
      unfold cle at hb
      simp (disch := omega) only [xu_ne, xu_at, upd_ne]) (fun k' hk' => by simp (disch := omega) only [xu_ne]) (fun k' hk' => by simp (disch := omega) only [xu_ne]) (fun k' hk' => by simp (disch := omega) only [xu_ne]) (fun k' hk' => by simp (disch := omega) only [xu_ne]) (fun k' hk' => by simp (disch := omega) only [xu_ne]) (fun k' hk' => by simp (disch := omega) only [xu_ne]) (fun k' hk' => by simp (disch := omega) only [xu_ne]) (fun k' hk' => by simp (disch := omega) only [xu_ne]) (fun r' hr' k' hk' => by simp (disch := omega) only [xu_ne, xu_at, upd_ne])⟩
  · simp (disch := omega) only [xu_ne, xu_at, upd_ne]
    exact hbk
  · unfold RXt
    simp (disch := omega) only [xu_ne]
    exact ht
theorem X_push_shop {σ : xSt} {H : List sS} {s : sS} {tx : (Nat → Int32) × Nat} (h : RX σ (H, s, tx)) (hc : caps s) (hlt : cS s < 7) (hH : ∀ x ∈ H, cle x s) (x0 y0 op cl sy : Int32) : RX (xu (xu (xu (xu (xu (xu σ 39 (cS s) x0) 40 (cS s) y0) 41 (cS s) op) 42 (cS s) cl) 43 (cS s) sy) 38 5 (nI (cS s + 1))) (H, (upd (upd (upd (upd (upd (upd s 7 (nI (cS s + 1))) (625 + cS s) x0) (632 + cS s) y0) (639 + cS s) op) (646 + cS s) cl) (653 + cS s) sy), tx) := by
  have h : pgS σ s ∧ lvS σ s ∧ RXh σ H ∧ (σ 39 7 = 0 ∧ σ 40 7 = 0) ∧ RXt σ tx := h
  obtain ⟨⟨hgrams, hcame, hsold, hgone, hnrec, hwait, hparts, hndough, hpoints, hstate, hshaped, hwent, htick, hwarmth, hdecks, hheat, hsetHeat, hbreads, hstrength, hcost, hcap, hncount, hnshop⟩, ⟨lpiece, llow, lhigh, liheat, lallerg, ldrec, ldpieces, lsx, lsy, lsopen, lsclose, lsstay, ldg, lnote⟩, ⟨h8, ha, o0, ho8, ho, hh⟩, hbk, ht⟩ := h
  obtain ⟨hcap_cR, hcap_cD, hcap_cS, hcap_cN, hrec, hE5, hE6, hE7, hE9⟩ := hc
  have e_cR : cR (upd (upd (upd (upd (upd (upd s 7 (nI (cS s + 1))) (625 + cS s) x0) (632 + cS s) y0) (639 + cS s) op) (646 + cS s) cl) (653 + cS s) sy) = cR s := by simp (disch := omega) only [cR_ne, cR_at]
  have e_cD : cD (upd (upd (upd (upd (upd (upd s 7 (nI (cS s + 1))) (625 + cS s) x0) (632 + cS s) y0) (639 + cS s) op) (646 + cS s) cl) (653 + cS s) sy) = cD s := by simp (disch := omega) only [cD_ne, cD_at]
  have e_cS : cS (upd (upd (upd (upd (upd (upd s 7 (nI (cS s + 1))) (625 + cS s) x0) (632 + cS s) y0) (639 + cS s) op) (646 + cS s) cl) (653 + cS s) sy) = cS s + 1 := by simp (disch := omega) only [cS_ne, cS_at]
  have e_cN : ∀ r', r' < 6 → cN (upd (upd (upd (upd (upd (upd s 7 (nI (cS s + 1))) (625 + cS s) x0) (632 + cS s) y0) (639 + cS s) op) (646 + cS s) cl) (653 + cS s) sy) r' = cN s r' := by
    intro r' hr'
    simp (disch := omega) only [cN_ne]
  show pgS (xu (xu (xu (xu (xu (xu σ 39 (cS s) x0) 40 (cS s) y0) 41 (cS s) op) 42 (cS s) cl) 43 (cS s) sy) 38 5 (nI (cS s + 1))) (upd (upd (upd (upd (upd (upd s 7 (nI (cS s + 1))) (625 + cS s) x0) (632 + cS s) y0) (639 + cS s) op) (646 + cS s) cl) (653 + cS s) sy) ∧ lvS (xu (xu (xu (xu (xu (xu σ 39 (cS s) x0) 40 (cS s) y0) 41 (cS s) op) 42 (cS s) cl) 43 (cS s) sy) 38 5 (nI (cS s + 1))) (upd (upd (upd (upd (upd (upd s 7 (nI (cS s + 1))) (625 + cS s) x0) (632 + cS s) y0) (639 + cS s) op) (646 + cS s) cl) (653 + cS s) sy) ∧ RXh (xu (xu (xu (xu (xu (xu σ 39 (cS s) x0) 40 (cS s) y0) 41 (cS s) op) 42 (cS s) cl) 43 (cS s) sy) 38 5 (nI (cS s + 1))) H ∧ ((xu (xu (xu (xu (xu (xu σ 39 (cS s) x0) 40 (cS s) y0) 41 (cS s) op) 42 (cS s) cl) 43 (cS s) sy) 38 5 (nI (cS s + 1))) 39 7 = 0 ∧ (xu (xu (xu (xu (xu (xu σ 39 (cS s) x0) 40 (cS s) y0) 41 (cS s) op) 42 (cS s) cl) 43 (cS s) sy) 38 5 (nI (cS s + 1))) 40 7 = 0) ∧ RXt (xu (xu (xu (xu (xu (xu σ 39 (cS s) x0) 40 (cS s) y0) 41 (cS s) op) 42 (cS s) cl) 43 (cS s) sy) 38 5 (nI (cS s + 1))) tx
  refine ⟨⟨?_, ?_, ?_, ?_, ?_, ?_, ?_, ?_, ?_, ?_, ?_, ?_, ?_, ?_, ?_, ?_, ?_, ?_, ?_, ?_, ?_, ?_, ?_⟩, ⟨?_, ?_, ?_, ?_, ?_, ?_, ?_, ?_, ?_, ?_, ?_, ?_, ?_, ?_⟩, ⟨h8, ?_, o0, ho8, ?_, fun i x hi => ?_⟩, ?_, ?_⟩
  · intro k' hk'
    simp (disch := omega) only [xu_ne, xu_at, upd_ne, upd_at]
    exact hgrams k' hk'
  · simp (disch := omega) only [xu_ne, xu_at, upd_ne, upd_at] <;> first | exact hcame | rfl
  · simp (disch := omega) only [xu_ne, xu_at, upd_ne, upd_at] <;> first | exact hsold | rfl
  · simp (disch := omega) only [xu_ne, xu_at, upd_ne, upd_at] <;> first | exact hgone | rfl
  · simp (disch := omega) only [xu_ne, xu_at, upd_ne, upd_at] <;> first | exact hnrec | rfl
  · intro k' hk'
    rw [e_cR]
    simp (disch := omega) only [xu_ne, xu_at, upd_ne, upd_at]
    exact hwait k' hk'
  · intro k' hk'
    simp (disch := omega) only [xu_ne, xu_at, upd_ne, upd_at]
    exact hparts k' hk'
  · simp (disch := omega) only [xu_ne, xu_at, upd_ne, upd_at] <;> first | exact hndough | rfl
  · intro k' hk'
    simp (disch := omega) only [xu_ne, xu_at, upd_ne, upd_at]
    exact hpoints k' hk'
  · intro k' hk'
    simp (disch := omega) only [xu_ne, xu_at, upd_ne, upd_at]
    exact hstate k' hk'
  · intro k' hk'
    simp (disch := omega) only [xu_ne, xu_at, upd_ne, upd_at]
    exact hshaped k' hk'
  · intro k' hk'
    simp (disch := omega) only [xu_ne, xu_at, upd_ne, upd_at]
    exact hwent k' hk'
  · simp (disch := omega) only [xu_ne, xu_at, upd_ne, upd_at] <;> first | exact htick | rfl
  · simp (disch := omega) only [xu_ne, xu_at, upd_ne, upd_at] <;> first | exact hwarmth | rfl
  · simp (disch := omega) only [xu_ne, xu_at, upd_ne, upd_at] <;> first | exact hdecks | rfl
  · simp (disch := omega) only [xu_ne, xu_at, upd_ne, upd_at] <;> first | exact hheat | rfl
  · simp (disch := omega) only [xu_ne, xu_at, upd_ne, upd_at] <;> first | exact hsetHeat | rfl
  · intro k' hk'
    simp (disch := omega) only [xu_ne, xu_at, upd_ne, upd_at]
    exact hbreads k' hk'
  · intro k' hk'
    simp (disch := omega) only [xu_ne, xu_at, upd_ne, upd_at]
    exact hstrength k' hk'
  · intro k' hk'
    simp (disch := omega) only [xu_ne, xu_at, upd_ne, upd_at]
    exact hcost k' hk'
  · intro k' hk'
    simp (disch := omega) only [xu_ne, xu_at, upd_ne, upd_at]
    exact hcap k' hk'
  · intro k' hk'
    simp (disch := omega) only [xu_ne, xu_at, upd_ne, upd_at]
    exact hncount k' hk'
  · simp (disch := omega) only [xu_ne, xu_at, upd_ne, upd_at] <;> first | exact hnshop | rfl
  · intro k' hk'
    rw [e_cR] at hk'
    have hb := hcap_cR
    simp (disch := omega) only [xu_ne, xu_at, upd_ne, upd_at]
    exact lpiece k' hk'
  · intro k' hk'
    rw [e_cR] at hk'
    have hb := hcap_cR
    simp (disch := omega) only [xu_ne, xu_at, upd_ne, upd_at]
    exact llow k' hk'
  · intro k' hk'
    rw [e_cR] at hk'
    have hb := hcap_cR
    simp (disch := omega) only [xu_ne, xu_at, upd_ne, upd_at]
    exact lhigh k' hk'
  · intro k' hk'
    rw [e_cR] at hk'
    have hb := hcap_cR
    simp (disch := omega) only [xu_ne, xu_at, upd_ne, upd_at]
    exact liheat k' hk'
  · intro k' hk'
    rw [e_cR] at hk'
    have hb := hcap_cR
    simp (disch := omega) only [xu_ne, xu_at, upd_ne, upd_at]
    exact lallerg k' hk'
  · intro k' hk'
    rw [e_cD] at hk'
    have hb := hcap_cD
    simp (disch := omega) only [xu_ne, xu_at, upd_ne, upd_at]
    exact ldrec k' hk'
  · intro k' hk'
    rw [e_cD] at hk'
    have hb := hcap_cD
    simp (disch := omega) only [xu_ne, xu_at, upd_ne, upd_at]
    exact ldpieces k' hk'
  · intro k' hk'
    rw [e_cS] at hk'
    by_cases e : k' = cS s
    · subst e
      simp (disch := omega) only [xu_ne, xu_at, upd_ne, upd_at]
    · simp (disch := omega) only [xu_ne, xu_at, upd_ne, upd_at]
      exact lsx k' (by omega)
  · intro k' hk'
    rw [e_cS] at hk'
    by_cases e : k' = cS s
    · subst e
      simp (disch := omega) only [xu_ne, xu_at, upd_ne, upd_at]
    · simp (disch := omega) only [xu_ne, xu_at, upd_ne, upd_at]
      exact lsy k' (by omega)
  · intro k' hk'
    rw [e_cS] at hk'
    by_cases e : k' = cS s
    · subst e
      simp (disch := omega) only [xu_ne, xu_at, upd_ne, upd_at]
    · simp (disch := omega) only [xu_ne, xu_at, upd_ne, upd_at]
      exact lsopen k' (by omega)
  · intro k' hk'
    rw [e_cS] at hk'
    by_cases e : k' = cS s
    · subst e
      simp (disch := omega) only [xu_ne, xu_at, upd_ne, upd_at]
    · simp (disch := omega) only [xu_ne, xu_at, upd_ne, upd_at]
      exact lsclose k' (by omega)
  · intro k' hk'
    rw [e_cS] at hk'
    by_cases e : k' = cS s
    · subst e
      simp (disch := omega) only [xu_ne, xu_at, upd_ne, upd_at]
    · simp (disch := omega) only [xu_ne, xu_at, upd_ne, upd_at]
      exact lsstay k' (by omega)
  · intro k' hk'
    rw [e_cD] at hk'
    have hb := hcap_cD
    have hb2 := hcap_cR
    have hb3 := hrec k' hk'
    simp (disch := omega) only [xu_ne, xu_at, upd_ne, upd_at]
    exact ldg k' hk'
  · intro r' hr' k' hk'
    rw [e_cN r' hr'] at hk'
    have hb := hcap_cN r' hr'
    simp (disch := omega) only [xu_ne, xu_at, upd_ne, upd_at]
    exact lnote r' hr' k' hk'
  · simp (disch := omega) only [xu_ne]
    exact ha
  · simp (disch := omega) only [xu_ne]
    exact ho
  · obtain ⟨g1, g2⟩ := hh i x hi
    refine ⟨by simp (disch := omega) only [xu_ne]; exact g1, lvS.congk g2 (fun k' hk' => by simp (disch := omega) only [xu_ne]) (fun k' hk' => by simp (disch := omega) only [xu_ne]) (fun k' hk' => by simp (disch := omega) only [xu_ne]) (fun k' hk' => by simp (disch := omega) only [xu_ne]) (fun k' hk' => by simp (disch := omega) only [xu_ne]) (fun k' hk' => by simp (disch := omega) only [xu_ne]) (fun k' hk' => by simp (disch := omega) only [xu_ne]) (fun k' hk' => by
      have hb := hH x (List.mem_of_getElem? hi)
      unfold cle at hb
      simp (disch := omega) only [xu_ne, xu_at, upd_ne]) (fun k' hk' => by
      have hb := hH x (List.mem_of_getElem? hi)
      unfold cle at hb
      simp (disch := omega) only [xu_ne, xu_at, upd_ne]) (fun k' hk' => by
      have hb := hH x (List.mem_of_getElem? hi)
      unfold cle at hb
      simp (disch := omega) only [xu_ne, xu_at, upd_ne]) (fun k' hk' => by
      have hb := hH x (List.mem_of_getElem? hi)
      unfold cle at hb
      simp (disch := omega) only [xu_ne, xu_at, upd_ne]) (fun k' hk' => by
      have hb := hH x (List.mem_of_getElem? hi)
      unfold cle at hb
      simp (disch := omega) only [xu_ne, xu_at, upd_ne]) (fun k' hk' => by simp (disch := omega) only [xu_ne]) (fun r' hr' k' hk' => by simp (disch := omega) only [xu_ne, xu_at, upd_ne])⟩
  · simp (disch := omega) only [xu_ne, xu_at, upd_ne]
    exact hbk
  · unfold RXt
    simp (disch := omega) only [xu_ne]
    exact ht
theorem X_push_note {σ : xSt} {H : List sS} {s : sS} {tx : (Nat → Int32) × Nat} (h : RX σ (H, s, tx)) (hc : caps s) {r : Nat} (hr : r < 6) (hlt : cN s r < 60) (hH : ∀ x ∈ H, cle x s) (v : Int32) : RX (xu (xu σ 36 (60 * r + cN s r) v) 37 r (nI (cN s r + 1))) (H, (upd (upd s (265 + (60 * r + cN s r)) v) (259 + r) (nI (cN s r + 1))), tx) := by
  have h : pgS σ s ∧ lvS σ s ∧ RXh σ H ∧ (σ 39 7 = 0 ∧ σ 40 7 = 0) ∧ RXt σ tx := h
  obtain ⟨⟨hgrams, hcame, hsold, hgone, hnrec, hwait, hparts, hndough, hpoints, hstate, hshaped, hwent, htick, hwarmth, hdecks, hheat, hsetHeat, hbreads, hstrength, hcost, hcap, hncount, hnshop⟩, ⟨lpiece, llow, lhigh, liheat, lallerg, ldrec, ldpieces, lsx, lsy, lsopen, lsclose, lsstay, ldg, lnote⟩, ⟨h8, ha, o0, ho8, ho, hh⟩, hbk, ht⟩ := h
  obtain ⟨hcap_cR, hcap_cD, hcap_cS, hcap_cN, hrec, hE5, hE6, hE7, hE9⟩ := hc
  have e_cR : cR (upd (upd s (265 + (60 * r + cN s r)) v) (259 + r) (nI (cN s r + 1))) = cR s := by simp (disch := omega) only [cR_ne, cR_at]
  have e_cD : cD (upd (upd s (265 + (60 * r + cN s r)) v) (259 + r) (nI (cN s r + 1))) = cD s := by simp (disch := omega) only [cD_ne, cD_at]
  have e_cS : cS (upd (upd s (265 + (60 * r + cN s r)) v) (259 + r) (nI (cN s r + 1))) = cS s := by simp (disch := omega) only [cS_ne, cS_at]
  have e_cN : ∀ r', r' < 6 → cN (upd (upd s (265 + (60 * r + cN s r)) v) (259 + r) (nI (cN s r + 1))) r' = (if r' = r then cN s r + 1 else cN s r') := by
    intro r' hr'
    have hb := hcap_cN r hr
    by_cases e : r' = r
    · subst e; rw [if_pos rfl, cN_at _ (by omega)]
    · rw [if_neg e, cN_ne _ _ _ (by omega), cN_ne _ _ _ (by omega)]
  show pgS (xu (xu σ 36 (60 * r + cN s r) v) 37 r (nI (cN s r + 1))) (upd (upd s (265 + (60 * r + cN s r)) v) (259 + r) (nI (cN s r + 1))) ∧ lvS (xu (xu σ 36 (60 * r + cN s r) v) 37 r (nI (cN s r + 1))) (upd (upd s (265 + (60 * r + cN s r)) v) (259 + r) (nI (cN s r + 1))) ∧ RXh (xu (xu σ 36 (60 * r + cN s r) v) 37 r (nI (cN s r + 1))) H ∧ ((xu (xu σ 36 (60 * r + cN s r) v) 37 r (nI (cN s r + 1))) 39 7 = 0 ∧ (xu (xu σ 36 (60 * r + cN s r) v) 37 r (nI (cN s r + 1))) 40 7 = 0) ∧ RXt (xu (xu σ 36 (60 * r + cN s r) v) 37 r (nI (cN s r + 1))) tx
  refine ⟨⟨?_, ?_, ?_, ?_, ?_, ?_, ?_, ?_, ?_, ?_, ?_, ?_, ?_, ?_, ?_, ?_, ?_, ?_, ?_, ?_, ?_, ?_, ?_⟩, ⟨?_, ?_, ?_, ?_, ?_, ?_, ?_, ?_, ?_, ?_, ?_, ?_, ?_, ?_⟩, ⟨h8, ?_, o0, ho8, ?_, fun i x hi => ?_⟩, ?_, ?_⟩
  · intro k' hk'
    simp (disch := omega) only [xu_ne, xu_at, upd_ne, upd_at]
    exact hgrams k' hk'
  · simp (disch := omega) only [xu_ne, xu_at, upd_ne, upd_at] <;> first | exact hcame | rfl
  · simp (disch := omega) only [xu_ne, xu_at, upd_ne, upd_at] <;> first | exact hsold | rfl
  · simp (disch := omega) only [xu_ne, xu_at, upd_ne, upd_at] <;> first | exact hgone | rfl
  · simp (disch := omega) only [xu_ne, xu_at, upd_ne, upd_at] <;> first | exact hnrec | rfl
  · intro k' hk'
    rw [e_cR]
    simp (disch := omega) only [xu_ne, xu_at, upd_ne, upd_at]
    exact hwait k' hk'
  · intro k' hk'
    simp (disch := omega) only [xu_ne, xu_at, upd_ne, upd_at]
    exact hparts k' hk'
  · simp (disch := omega) only [xu_ne, xu_at, upd_ne, upd_at] <;> first | exact hndough | rfl
  · intro k' hk'
    simp (disch := omega) only [xu_ne, xu_at, upd_ne, upd_at]
    exact hpoints k' hk'
  · intro k' hk'
    simp (disch := omega) only [xu_ne, xu_at, upd_ne, upd_at]
    exact hstate k' hk'
  · intro k' hk'
    simp (disch := omega) only [xu_ne, xu_at, upd_ne, upd_at]
    exact hshaped k' hk'
  · intro k' hk'
    simp (disch := omega) only [xu_ne, xu_at, upd_ne, upd_at]
    exact hwent k' hk'
  · simp (disch := omega) only [xu_ne, xu_at, upd_ne, upd_at] <;> first | exact htick | rfl
  · simp (disch := omega) only [xu_ne, xu_at, upd_ne, upd_at] <;> first | exact hwarmth | rfl
  · simp (disch := omega) only [xu_ne, xu_at, upd_ne, upd_at] <;> first | exact hdecks | rfl
  · simp (disch := omega) only [xu_ne, xu_at, upd_ne, upd_at] <;> first | exact hheat | rfl
  · simp (disch := omega) only [xu_ne, xu_at, upd_ne, upd_at] <;> first | exact hsetHeat | rfl
  · intro k' hk'
    simp (disch := omega) only [xu_ne, xu_at, upd_ne, upd_at]
    exact hbreads k' hk'
  · intro k' hk'
    simp (disch := omega) only [xu_ne, xu_at, upd_ne, upd_at]
    exact hstrength k' hk'
  · intro k' hk'
    simp (disch := omega) only [xu_ne, xu_at, upd_ne, upd_at]
    exact hcost k' hk'
  · intro k' hk'
    simp (disch := omega) only [xu_ne, xu_at, upd_ne, upd_at]
    exact hcap k' hk'
  · intro k' hk'
    by_cases e : k' = r
    · subst e
      simp (disch := omega) only [xu_ne, xu_at, upd_ne, upd_at]
    · simp (disch := omega) only [xu_ne, xu_at, upd_ne, upd_at]
      exact hncount k' hk'
  · simp (disch := omega) only [xu_ne, xu_at, upd_ne, upd_at] <;> first | exact hnshop | rfl
  · intro k' hk'
    rw [e_cR] at hk'
    have hb := hcap_cR
    simp (disch := omega) only [xu_ne, xu_at, upd_ne, upd_at]
    exact lpiece k' hk'
  · intro k' hk'
    rw [e_cR] at hk'
    have hb := hcap_cR
    simp (disch := omega) only [xu_ne, xu_at, upd_ne, upd_at]
    exact llow k' hk'
  · intro k' hk'
    rw [e_cR] at hk'
    have hb := hcap_cR
    simp (disch := omega) only [xu_ne, xu_at, upd_ne, upd_at]
    exact lhigh k' hk'
  · intro k' hk'
    rw [e_cR] at hk'
    have hb := hcap_cR
    simp (disch := omega) only [xu_ne, xu_at, upd_ne, upd_at]
    exact liheat k' hk'
  · intro k' hk'
    rw [e_cR] at hk'
    have hb := hcap_cR
    simp (disch := omega) only [xu_ne, xu_at, upd_ne, upd_at]
    exact lallerg k' hk'
  · intro k' hk'
    rw [e_cD] at hk'
    have hb := hcap_cD
    simp (disch := omega) only [xu_ne, xu_at, upd_ne, upd_at]
    exact ldrec k' hk'
  · intro k' hk'
    rw [e_cD] at hk'
    have hb := hcap_cD
    simp (disch := omega) only [xu_ne, xu_at, upd_ne, upd_at]
    exact ldpieces k' hk'
  · intro k' hk'
    rw [e_cS] at hk'
    have hb := hcap_cS
    simp (disch := omega) only [xu_ne, xu_at, upd_ne, upd_at]
    exact lsx k' hk'
  · intro k' hk'
    rw [e_cS] at hk'
    have hb := hcap_cS
    simp (disch := omega) only [xu_ne, xu_at, upd_ne, upd_at]
    exact lsy k' hk'
  · intro k' hk'
    rw [e_cS] at hk'
    have hb := hcap_cS
    simp (disch := omega) only [xu_ne, xu_at, upd_ne, upd_at]
    exact lsopen k' hk'
  · intro k' hk'
    rw [e_cS] at hk'
    have hb := hcap_cS
    simp (disch := omega) only [xu_ne, xu_at, upd_ne, upd_at]
    exact lsclose k' hk'
  · intro k' hk'
    rw [e_cS] at hk'
    have hb := hcap_cS
    simp (disch := omega) only [xu_ne, xu_at, upd_ne, upd_at]
    exact lsstay k' hk'
  · intro k' hk'
    rw [e_cD] at hk'
    have hb := hcap_cD
    have hb2 := hcap_cR
    have hb3 := hrec k' hk'
    simp (disch := omega) only [xu_ne, xu_at, upd_ne, upd_at]
    exact ldg k' hk'
  · intro r' hr' k' hk'
    rw [e_cN r' hr'] at hk'
    have hb := hcap_cN r' hr'
    rw [xu_ne _ _ _ (by decide), xu_at]
    by_cases e : r' = r
    · subst e
      rw [if_pos rfl] at hk'
      by_cases e2 : k' = cN s r'
      · subst e2; simp (disch := omega) only [upd_ne, upd_at]
      · simp (disch := omega) only [upd_ne]; exact lnote r' hr' k' (by omega)
    · rw [if_neg e] at hk'
      simp (disch := omega) only [upd_ne]; exact lnote r' hr' k' hk'
  · simp (disch := omega) only [xu_ne]
    exact ha
  · simp (disch := omega) only [xu_ne]
    exact ho
  · obtain ⟨g1, g2⟩ := hh i x hi
    refine ⟨by simp (disch := omega) only [xu_ne]; exact g1, lvS.congk g2 (fun k' hk' => by simp (disch := omega) only [xu_ne]) (fun k' hk' => by simp (disch := omega) only [xu_ne]) (fun k' hk' => by simp (disch := omega) only [xu_ne]) (fun k' hk' => by simp (disch := omega) only [xu_ne]) (fun k' hk' => by simp (disch := omega) only [xu_ne]) (fun k' hk' => by simp (disch := omega) only [xu_ne]) (fun k' hk' => by simp (disch := omega) only [xu_ne]) (fun k' hk' => by simp (disch := omega) only [xu_ne]) (fun k' hk' => by simp (disch := omega) only [xu_ne]) (fun k' hk' => by simp (disch := omega) only [xu_ne]) (fun k' hk' => by simp (disch := omega) only [xu_ne]) (fun k' hk' => by simp (disch := omega) only [xu_ne]) (fun k' hk' => by simp (disch := omega) only [xu_ne]) (fun r' hr' k' hk' => by
      have hb := (hH x (List.mem_of_getElem? hi)).2.2.2 r' hr'
      have hb2 := hcap_cN r' hr'
      rw [xu_ne _ _ _ (by decide), xu_at]
      by_cases e : r' = r
      · subst e; rw [upd_ne _ _ (by omega)]
      · rw [upd_ne _ _ (by omega)])⟩
  · simp (disch := omega) only [xu_ne, xu_at, upd_ne]
    exact hbk
  · unfold RXt
    simp (disch := omega) only [xu_ne]
    exact ht
theorem X_push_dough {σ : xSt} {H : List sS} {s : sS} {tx : (Nat → Int32) × Nat} (h : RX σ (H, s, tx)) (hc : caps s) (hlt : cD s < 20) (hH : ∀ x ∈ H, cle x s) {rc : Nat} (hrc : rc < cR s) (pc : Int32) : RX (xu (xu (xu (xu (xu (xu (xu (xu σ 13 (cD s) (nI rc)) 14 (cD s) pc) 15 (cD s) (pc * s (19 + rc))) 16 (cD s) 0) 17 (cD s) 0) 18 (cD s) (-1)) 19 (cD s) (-1)) 12 7 (nI (cD s + 1))) (H, (upd (upd (upd (upd (upd (upd (upd s 6 (nI (cD s + 1))) (103 + cD s) (nI rc)) (123 + cD s) pc) (143 + cD s) 0) (163 + cD s) 0) (183 + cD s) (-1)) (203 + cD s) (-1)), tx) := by
  have h : pgS σ s ∧ lvS σ s ∧ RXh σ H ∧ (σ 39 7 = 0 ∧ σ 40 7 = 0) ∧ RXt σ tx := h
  obtain ⟨⟨hgrams, hcame, hsold, hgone, hnrec, hwait, hparts, hndough, hpoints, hstate, hshaped, hwent, htick, hwarmth, hdecks, hheat, hsetHeat, hbreads, hstrength, hcost, hcap, hncount, hnshop⟩, ⟨lpiece, llow, lhigh, liheat, lallerg, ldrec, ldpieces, lsx, lsy, lsopen, lsclose, lsstay, ldg, lnote⟩, ⟨h8, ha, o0, ho8, ho, hh⟩, hbk, ht⟩ := h
  obtain ⟨hcap_cR, hcap_cD, hcap_cS, hcap_cN, hrec, hE5, hE6, hE7, hE9⟩ := hc
  have e_cR : cR (upd (upd (upd (upd (upd (upd (upd s 6 (nI (cD s + 1))) (103 + cD s) (nI rc)) (123 + cD s) pc) (143 + cD s) 0) (163 + cD s) 0) (183 + cD s) (-1)) (203 + cD s) (-1)) = cR s := by simp (disch := omega) only [cR_ne, cR_at]
  have e_cD : cD (upd (upd (upd (upd (upd (upd (upd s 6 (nI (cD s + 1))) (103 + cD s) (nI rc)) (123 + cD s) pc) (143 + cD s) 0) (163 + cD s) 0) (183 + cD s) (-1)) (203 + cD s) (-1)) = cD s + 1 := by simp (disch := omega) only [cD_ne, cD_at]
  have e_cS : cS (upd (upd (upd (upd (upd (upd (upd s 6 (nI (cD s + 1))) (103 + cD s) (nI rc)) (123 + cD s) pc) (143 + cD s) 0) (163 + cD s) 0) (183 + cD s) (-1)) (203 + cD s) (-1)) = cS s := by simp (disch := omega) only [cS_ne, cS_at]
  have e_cN : ∀ r', r' < 6 → cN (upd (upd (upd (upd (upd (upd (upd s 6 (nI (cD s + 1))) (103 + cD s) (nI rc)) (123 + cD s) pc) (143 + cD s) 0) (163 + cD s) 0) (183 + cD s) (-1)) (203 + cD s) (-1)) r' = cN s r' := by
    intro r' hr'
    simp (disch := omega) only [cN_ne]
  show pgS (xu (xu (xu (xu (xu (xu (xu (xu σ 13 (cD s) (nI rc)) 14 (cD s) pc) 15 (cD s) (pc * s (19 + rc))) 16 (cD s) 0) 17 (cD s) 0) 18 (cD s) (-1)) 19 (cD s) (-1)) 12 7 (nI (cD s + 1))) (upd (upd (upd (upd (upd (upd (upd s 6 (nI (cD s + 1))) (103 + cD s) (nI rc)) (123 + cD s) pc) (143 + cD s) 0) (163 + cD s) 0) (183 + cD s) (-1)) (203 + cD s) (-1)) ∧ lvS (xu (xu (xu (xu (xu (xu (xu (xu σ 13 (cD s) (nI rc)) 14 (cD s) pc) 15 (cD s) (pc * s (19 + rc))) 16 (cD s) 0) 17 (cD s) 0) 18 (cD s) (-1)) 19 (cD s) (-1)) 12 7 (nI (cD s + 1))) (upd (upd (upd (upd (upd (upd (upd s 6 (nI (cD s + 1))) (103 + cD s) (nI rc)) (123 + cD s) pc) (143 + cD s) 0) (163 + cD s) 0) (183 + cD s) (-1)) (203 + cD s) (-1)) ∧ RXh (xu (xu (xu (xu (xu (xu (xu (xu σ 13 (cD s) (nI rc)) 14 (cD s) pc) 15 (cD s) (pc * s (19 + rc))) 16 (cD s) 0) 17 (cD s) 0) 18 (cD s) (-1)) 19 (cD s) (-1)) 12 7 (nI (cD s + 1))) H ∧ ((xu (xu (xu (xu (xu (xu (xu (xu σ 13 (cD s) (nI rc)) 14 (cD s) pc) 15 (cD s) (pc * s (19 + rc))) 16 (cD s) 0) 17 (cD s) 0) 18 (cD s) (-1)) 19 (cD s) (-1)) 12 7 (nI (cD s + 1))) 39 7 = 0 ∧ (xu (xu (xu (xu (xu (xu (xu (xu σ 13 (cD s) (nI rc)) 14 (cD s) pc) 15 (cD s) (pc * s (19 + rc))) 16 (cD s) 0) 17 (cD s) 0) 18 (cD s) (-1)) 19 (cD s) (-1)) 12 7 (nI (cD s + 1))) 40 7 = 0) ∧ RXt (xu (xu (xu (xu (xu (xu (xu (xu σ 13 (cD s) (nI rc)) 14 (cD s) pc) 15 (cD s) (pc * s (19 + rc))) 16 (cD s) 0) 17 (cD s) 0) 18 (cD s) (-1)) 19 (cD s) (-1)) 12 7 (nI (cD s + 1))) tx
  refine ⟨⟨?_, ?_, ?_, ?_, ?_, ?_, ?_, ?_, ?_, ?_, ?_, ?_, ?_, ?_, ?_, ?_, ?_, ?_, ?_, ?_, ?_, ?_, ?_⟩, ⟨?_, ?_, ?_, ?_, ?_, ?_, ?_, ?_, ?_, ?_, ?_, ?_, ?_, ?_⟩, ⟨h8, ?_, o0, ho8, ?_, fun i x hi => ?_⟩, ?_, ?_⟩
  · intro k' hk'
    simp (disch := omega) only [xu_ne, xu_at, upd_ne, upd_at]
    exact hgrams k' hk'
  · simp (disch := omega) only [xu_ne, xu_at, upd_ne, upd_at] <;> first | exact hcame | rfl
  · simp (disch := omega) only [xu_ne, xu_at, upd_ne, upd_at] <;> first | exact hsold | rfl
  · simp (disch := omega) only [xu_ne, xu_at, upd_ne, upd_at] <;> first | exact hgone | rfl
  · simp (disch := omega) only [xu_ne, xu_at, upd_ne, upd_at] <;> first | exact hnrec | rfl
  · intro k' hk'
    rw [e_cR]
    simp (disch := omega) only [xu_ne, xu_at, upd_ne, upd_at]
    exact hwait k' hk'
  · intro k' hk'
    simp (disch := omega) only [xu_ne, xu_at, upd_ne, upd_at]
    exact hparts k' hk'
  · simp (disch := omega) only [xu_ne, xu_at, upd_ne, upd_at] <;> first | exact hndough | rfl
  · intro k' hk'
    by_cases e : k' = cD s
    · subst e
      simp (disch := omega) only [xu_ne, xu_at, upd_ne, upd_at]
    · simp (disch := omega) only [xu_ne, xu_at, upd_ne, upd_at]
      exact hpoints k' hk'
  · intro k' hk'
    by_cases e : k' = cD s
    · subst e
      simp (disch := omega) only [xu_ne, xu_at, upd_ne, upd_at]
    · simp (disch := omega) only [xu_ne, xu_at, upd_ne, upd_at]
      exact hstate k' hk'
  · intro k' hk'
    by_cases e : k' = cD s
    · subst e
      simp (disch := omega) only [xu_ne, xu_at, upd_ne, upd_at]
    · simp (disch := omega) only [xu_ne, xu_at, upd_ne, upd_at]
      exact hshaped k' hk'
  · intro k' hk'
    by_cases e : k' = cD s
    · subst e
      simp (disch := omega) only [xu_ne, xu_at, upd_ne, upd_at]
    · simp (disch := omega) only [xu_ne, xu_at, upd_ne, upd_at]
      exact hwent k' hk'
  · simp (disch := omega) only [xu_ne, xu_at, upd_ne, upd_at] <;> first | exact htick | rfl
  · simp (disch := omega) only [xu_ne, xu_at, upd_ne, upd_at] <;> first | exact hwarmth | rfl
  · simp (disch := omega) only [xu_ne, xu_at, upd_ne, upd_at] <;> first | exact hdecks | rfl
  · simp (disch := omega) only [xu_ne, xu_at, upd_ne, upd_at] <;> first | exact hheat | rfl
  · simp (disch := omega) only [xu_ne, xu_at, upd_ne, upd_at] <;> first | exact hsetHeat | rfl
  · intro k' hk'
    simp (disch := omega) only [xu_ne, xu_at, upd_ne, upd_at]
    exact hbreads k' hk'
  · intro k' hk'
    simp (disch := omega) only [xu_ne, xu_at, upd_ne, upd_at]
    exact hstrength k' hk'
  · intro k' hk'
    simp (disch := omega) only [xu_ne, xu_at, upd_ne, upd_at]
    exact hcost k' hk'
  · intro k' hk'
    simp (disch := omega) only [xu_ne, xu_at, upd_ne, upd_at]
    exact hcap k' hk'
  · intro k' hk'
    simp (disch := omega) only [xu_ne, xu_at, upd_ne, upd_at]
    exact hncount k' hk'
  · simp (disch := omega) only [xu_ne, xu_at, upd_ne, upd_at] <;> first | exact hnshop | rfl
  · intro k' hk'
    rw [e_cR] at hk'
    have hb := hcap_cR
    simp (disch := omega) only [xu_ne, xu_at, upd_ne, upd_at]
    exact lpiece k' hk'
  · intro k' hk'
    rw [e_cR] at hk'
    have hb := hcap_cR
    simp (disch := omega) only [xu_ne, xu_at, upd_ne, upd_at]
    exact llow k' hk'
  · intro k' hk'
    rw [e_cR] at hk'
    have hb := hcap_cR
    simp (disch := omega) only [xu_ne, xu_at, upd_ne, upd_at]
    exact lhigh k' hk'
  · intro k' hk'
    rw [e_cR] at hk'
    have hb := hcap_cR
    simp (disch := omega) only [xu_ne, xu_at, upd_ne, upd_at]
    exact liheat k' hk'
  · intro k' hk'
    rw [e_cR] at hk'
    have hb := hcap_cR
    simp (disch := omega) only [xu_ne, xu_at, upd_ne, upd_at]
    exact lallerg k' hk'
  · intro k' hk'
    rw [e_cD] at hk'
    by_cases e : k' = cD s
    · subst e
      simp (disch := omega) only [xu_ne, xu_at, upd_ne, upd_at]
    · simp (disch := omega) only [xu_ne, xu_at, upd_ne, upd_at]
      exact ldrec k' (by omega)
  · intro k' hk'
    rw [e_cD] at hk'
    by_cases e : k' = cD s
    · subst e
      simp (disch := omega) only [xu_ne, xu_at, upd_ne, upd_at]
    · simp (disch := omega) only [xu_ne, xu_at, upd_ne, upd_at]
      exact ldpieces k' (by omega)
  · intro k' hk'
    rw [e_cS] at hk'
    have hb := hcap_cS
    simp (disch := omega) only [xu_ne, xu_at, upd_ne, upd_at]
    exact lsx k' hk'
  · intro k' hk'
    rw [e_cS] at hk'
    have hb := hcap_cS
    simp (disch := omega) only [xu_ne, xu_at, upd_ne, upd_at]
    exact lsy k' hk'
  · intro k' hk'
    rw [e_cS] at hk'
    have hb := hcap_cS
    simp (disch := omega) only [xu_ne, xu_at, upd_ne, upd_at]
    exact lsopen k' hk'
  · intro k' hk'
    rw [e_cS] at hk'
    have hb := hcap_cS
    simp (disch := omega) only [xu_ne, xu_at, upd_ne, upd_at]
    exact lsclose k' hk'
  · intro k' hk'
    rw [e_cS] at hk'
    have hb := hcap_cS
    simp (disch := omega) only [xu_ne, xu_at, upd_ne, upd_at]
    exact lsstay k' hk'
  · intro k' hk'
    rw [e_cD] at hk'
    have hb2 := hcap_cR
    by_cases e : k' = cD s
    · subst e
      simp (disch := omega) only [xu_ne, xu_at, upd_ne, upd_at, nI_clamp]
    · have hb3 := hrec k' (by omega)
      simp (disch := omega) only [xu_ne, xu_at, upd_ne]
      exact ldg k' (by omega)
  · intro r' hr' k' hk'
    rw [e_cN r' hr'] at hk'
    have hb := hcap_cN r' hr'
    simp (disch := omega) only [xu_ne, xu_at, upd_ne, upd_at]
    exact lnote r' hr' k' hk'
  · simp (disch := omega) only [xu_ne]
    exact ha
  · simp (disch := omega) only [xu_ne]
    exact ho
  · obtain ⟨g1, g2⟩ := hh i x hi
    refine ⟨by simp (disch := omega) only [xu_ne]; exact g1, lvS.congk g2 (fun k' hk' => by simp (disch := omega) only [xu_ne]) (fun k' hk' => by simp (disch := omega) only [xu_ne]) (fun k' hk' => by simp (disch := omega) only [xu_ne]) (fun k' hk' => by simp (disch := omega) only [xu_ne]) (fun k' hk' => by simp (disch := omega) only [xu_ne]) (fun k' hk' => by
      have hb := hH x (List.mem_of_getElem? hi)
      unfold cle at hb
      simp (disch := omega) only [xu_ne, xu_at, upd_ne]) (fun k' hk' => by
      have hb := hH x (List.mem_of_getElem? hi)
      unfold cle at hb
      simp (disch := omega) only [xu_ne, xu_at, upd_ne]) (fun k' hk' => by simp (disch := omega) only [xu_ne]) (fun k' hk' => by simp (disch := omega) only [xu_ne]) (fun k' hk' => by simp (disch := omega) only [xu_ne]) (fun k' hk' => by simp (disch := omega) only [xu_ne]) (fun k' hk' => by simp (disch := omega) only [xu_ne]) (fun k' hk' => by
      have hb := hH x (List.mem_of_getElem? hi)
      unfold cle at hb
      simp (disch := omega) only [xu_ne, xu_at, upd_ne]) (fun r' hr' k' hk' => by simp (disch := omega) only [xu_ne, xu_at, upd_ne])⟩
  · simp (disch := omega) only [xu_ne, xu_at, upd_ne]
    exact hbk
  · unfold RXt
    simp (disch := omega) only [xu_ne]
    exact ht
theorem X_set_wait {σ : xSt} {H : List sS} {s : sS} {tx : (Nat → Int32) × Nat} (h : RX σ (H, s, tx)) (hc : caps s) {r : Nat} (hr : r < cR s) (v : Int32) : RX (xu σ 10 r v) (H, upd s (49 + r) v, tx) := by
  have h : pgS σ s ∧ lvS σ s ∧ RXh σ H ∧ (σ 39 7 = 0 ∧ σ 40 7 = 0) ∧ RXt σ tx := h
  obtain ⟨⟨hgrams, hcame, hsold, hgone, hnrec, hwait, hparts, hndough, hpoints, hstate, hshaped, hwent, htick, hwarmth, hdecks, hheat, hsetHeat, hbreads, hstrength, hcost, hcap, hncount, hnshop⟩, ⟨lpiece, llow, lhigh, liheat, lallerg, ldrec, ldpieces, lsx, lsy, lsopen, lsclose, lsstay, ldg, lnote⟩, ⟨h8, ha, o0, ho8, ho, hh⟩, hbk, ht⟩ := h
  obtain ⟨hcap_cR, hcap_cD, hcap_cS, hcap_cN, hrec, hE5, hE6, hE7, hE9⟩ := hc
  have eR : cR (upd s (49 + r) v) = cR s := cR_ne s v (by omega)
  have eD : cD (upd s (49 + r) v) = cD s := cD_ne s v (by omega)
  have eS : cS (upd s (49 + r) v) = cS s := cS_ne s v (by omega)
  show pgS (xu σ 10 r v) (upd s (49 + r) v) ∧ lvS (xu σ 10 r v) (upd s (49 + r) v) ∧ RXh (xu σ 10 r v) H ∧ (xu σ 10 r v 39 7 = 0 ∧ xu σ 10 r v 40 7 = 0) ∧ RXt (xu σ 10 r v) tx
  refine ⟨⟨?_, ?_, ?_, ?_, ?_, ?_, ?_, ?_, ?_, ?_, ?_, ?_, ?_, ?_, ?_, ?_, ?_, ?_, ?_, ?_, ?_, ?_, ?_⟩, ⟨?_, ?_, ?_, ?_, ?_, ?_, ?_, ?_, ?_, ?_, ?_, ?_, ?_, ?_⟩, ⟨h8, ?_, o0, ho8, ?_, fun i x hi => ?_⟩, ?_, ?_⟩
  · intro k' hk'
    rw [xu_ne _ _ _ (by decide), upd_ne s v (by omega)]; exact hgrams k' hk'
  · rw [xu_ne _ _ _ (by decide), upd_ne s v (by omega)]; exact hcame
  · rw [xu_ne _ _ _ (by decide), upd_ne s v (by omega)]; exact hsold
  · rw [xu_ne _ _ _ (by decide), upd_ne s v (by omega)]; exact hgone
  · rw [xu_ne _ _ _ (by decide), upd_ne s v (by omega)]; exact hnrec
  · intro k' hk'
    rw [xu_at, eR]
    by_cases e : k' = r
    · subst e; rw [upd_at, if_pos hr, upd_at]
    · rw [upd_ne _ _ e, upd_ne s v (by omega)]; exact hwait k' hk'
  · intro k' hk'
    rw [xu_ne _ _ _ (by decide), upd_ne s v (by omega)]; exact hparts k' hk'
  · rw [xu_ne _ _ _ (by decide), upd_ne s v (by omega)]; exact hndough
  · intro k' hk'
    rw [xu_ne _ _ _ (by decide), upd_ne s v (by omega)]; exact hpoints k' hk'
  · intro k' hk'
    rw [xu_ne _ _ _ (by decide), upd_ne s v (by omega)]; exact hstate k' hk'
  · intro k' hk'
    rw [xu_ne _ _ _ (by decide), upd_ne s v (by omega)]; exact hshaped k' hk'
  · intro k' hk'
    rw [xu_ne _ _ _ (by decide), upd_ne s v (by omega)]; exact hwent k' hk'
  · rw [xu_ne _ _ _ (by decide), upd_ne s v (by omega)]; exact htick
  · rw [xu_ne _ _ _ (by decide), upd_ne s v (by omega)]; exact hwarmth
  · rw [xu_ne _ _ _ (by decide), upd_ne s v (by omega)]; exact hdecks
  · rw [xu_ne _ _ _ (by decide), upd_ne s v (by omega)]; exact hheat
  · rw [xu_ne _ _ _ (by decide), upd_ne s v (by omega)]; exact hsetHeat
  · intro k' hk'
    rw [xu_ne _ _ _ (by decide), upd_ne s v (by omega)]; exact hbreads k' hk'
  · intro k' hk'
    rw [xu_ne _ _ _ (by decide), upd_ne s v (by omega)]; exact hstrength k' hk'
  · intro k' hk'
    rw [xu_ne _ _ _ (by decide), upd_ne s v (by omega)]; exact hcost k' hk'
  · intro k' hk'
    rw [xu_ne _ _ _ (by decide), upd_ne s v (by omega)]; exact hcap k' hk'
  · intro k' hk'
    rw [xu_ne _ _ _ (by decide), upd_ne s v (by omega)]; exact hncount k' hk'
  · rw [xu_ne _ _ _ (by decide), upd_ne s v (by omega)]; exact hnshop
  · intro k' hk'
    rw [eR] at hk'
    rw [xu_ne _ _ _ (by decide), upd_ne s v (by omega)]; exact lpiece k' hk'
  · intro k' hk'
    rw [eR] at hk'
    rw [xu_ne _ _ _ (by decide), upd_ne s v (by omega)]; exact llow k' hk'
  · intro k' hk'
    rw [eR] at hk'
    rw [xu_ne _ _ _ (by decide), upd_ne s v (by omega)]; exact lhigh k' hk'
  · intro k' hk'
    rw [eR] at hk'
    rw [xu_ne _ _ _ (by decide), upd_ne s v (by omega)]; exact liheat k' hk'
  · intro k' hk'
    rw [eR] at hk'
    rw [xu_ne _ _ _ (by decide), upd_ne s v (by omega)]; exact lallerg k' hk'
  · intro k' hk'
    rw [eD] at hk'
    rw [xu_ne _ _ _ (by decide), upd_ne s v (by omega)]; exact ldrec k' hk'
  · intro k' hk'
    rw [eD] at hk'
    rw [xu_ne _ _ _ (by decide), upd_ne s v (by omega)]; exact ldpieces k' hk'
  · intro k' hk'
    rw [eS] at hk'
    rw [xu_ne _ _ _ (by decide), upd_ne s v (by omega)]; exact lsx k' hk'
  · intro k' hk'
    rw [eS] at hk'
    rw [xu_ne _ _ _ (by decide), upd_ne s v (by omega)]; exact lsy k' hk'
  · intro k' hk'
    rw [eS] at hk'
    rw [xu_ne _ _ _ (by decide), upd_ne s v (by omega)]; exact lsopen k' hk'
  · intro k' hk'
    rw [eS] at hk'
    rw [xu_ne _ _ _ (by decide), upd_ne s v (by omega)]; exact lsclose k' hk'
  · intro k' hk'
    rw [eS] at hk'
    rw [xu_ne _ _ _ (by decide), upd_ne s v (by omega)]; exact lsstay k' hk'
  · intro k' hk'
    rw [eD] at hk'
    have hb3 := hrec k' hk'
    rw [xu_ne _ _ _ (by decide), upd_ne s v (k' := 123 + k') (by omega), upd_ne s v (k' := 103 + k') (by omega), upd_ne s v (by omega)]; exact ldg k' hk'
  · intro r' hr' k' hk'
    rw [cN_ne s r' v (by omega)] at hk'
    have hb := hcap_cN r' hr'
    rw [xu_ne _ _ _ (by decide), upd_ne s v (by omega)]; exact lnote r' hr' k' hk'
  · rw [xu_ne _ _ _ (by decide)]; exact ha
  · rw [xu_ne _ _ _ (by decide)]; exact ho
  · obtain ⟨g1, g2⟩ := hh i x hi
    refine ⟨by rw [xu_ne _ _ _ (by decide)]; exact g1, lvS.cong g2 (xu_ne _ _ _ (by decide)) (xu_ne _ _ _ (by decide)) (xu_ne _ _ _ (by decide)) (xu_ne _ _ _ (by decide)) (xu_ne _ _ _ (by decide)) (xu_ne _ _ _ (by decide)) (xu_ne _ _ _ (by decide)) (xu_ne _ _ _ (by decide)) (xu_ne _ _ _ (by decide)) (xu_ne _ _ _ (by decide)) (xu_ne _ _ _ (by decide)) (xu_ne _ _ _ (by decide)) (xu_ne _ _ _ (by decide)) (xu_ne _ _ _ (by decide))⟩
  · rw [xu_ne _ _ _ (by decide), xu_ne _ _ _ (by decide)]; exact hbk
  · unfold RXt; rw [xu_ne _ _ _ (by decide), xu_ne _ _ _ (by decide)]; exact ht
