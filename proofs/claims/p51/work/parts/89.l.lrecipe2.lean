/-! the areMade loops: what a recipe holds, and the step from one to the next -/
def Rc1 (σ : xSt) (s : sS) (i : Nat) : Prop := ∃ (lo hi al w p : Nat) (pv : Nat → Nat), (σ 54 i = nI lo ∧ σ 55 i = nI hi ∧ σ 57 i = nI al ∧ σ 56 i = nI w) ∧ (s (19 + i) = nI p ∧ s (25 + i) = nI lo ∧ s (31 + i) = nI hi ∧ s (37 + i) = 100 ∧ s (43 + i) = nI al ∧ s (49 + i) = nI w ∧ ∀ j, j < 8 → s (55 + (8 * i + j)) = nI (pv j)) ∧ (1 ≤ lo ∧ lo ≤ 30) ∧ lo ≤ hi ∧ hi ≤ lo + 39 ∧ al < 16 ∧ (5 ≤ w ∧ w ≤ 44) ∧ (50 ≤ p ∧ p ≤ 109) ∧ (∀ j, pv j < 100) ∧ 0 < sN pv 8
theorem Rc1.cg {σ τ : xSt} {s s' : sS} {i : Nat} (h : Rc1 σ s i) (e : ∀ q, 54 ≤ q → q ≤ 57 → τ q i = σ q i) (e2 : ∀ q, (q = 19 + i ∨ q = 25 + i ∨ q = 31 + i ∨ q = 37 + i ∨ q = 43 + i ∨ q = 49 + i ∨ (55 + 8 * i ≤ q ∧ q < 55 + 8 * i + 8)) → s' q = s q) : Rc1 τ s' i := by
  obtain ⟨lo, hi, al, w, p, pv, ⟨a1, a2, a3, a4⟩, ⟨b1, b2, b3, b4, b5, b6, b7⟩, r⟩ := h
  refine ⟨lo, hi, al, w, p, pv, ⟨?_, ?_, ?_, ?_⟩, ⟨?_, ?_, ?_, ?_, ?_, ?_, fun j hj => ?_⟩, r⟩
  · rw [e 54 (by omega) (by omega), a1]
  · rw [e 55 (by omega) (by omega), a2]
  · rw [e 57 (by omega) (by omega), a3]
  · rw [e 56 (by omega) (by omega), a4]
  · rw [e2 _ (by omega), b1]
  · rw [e2 _ (by omega), b2]
  · rw [e2 _ (by omega), b3]
  · rw [e2 _ (by omega), b4]
  · rw [e2 _ (by omega), b5]
  · rw [e2 _ (by omega), b6]
  · rw [e2 _ (by omega), b7 j hj]
theorem adS_v {s : sS} {p lo hi al : Int32} (h6 : cR s < 6) : adS s p lo hi al 5 = nI (cR s + 1) ∧ adS s p lo hi al (19 + cR s) = p ∧ adS s p lo hi al (25 + cR s) = lo ∧ adS s p lo hi al (31 + cR s) = hi ∧ adS s p lo hi al (37 + cR s) = 100 ∧ adS s p lo hi al (43 + cR s) = al ∧ adS s p lo hi al (49 + cR s) = 20 := by
  unfold adS
  generalize cR s = r at *
  refine ⟨?_, ?_, ?_, ?_, ?_, ?_, ?_⟩ <;> repeat (first | rw [upd_ne _ _ (by omega)] | rw [upd_at])
theorem adS_out {s : sS} {p lo hi al : Int32} {q : Nat} (h : q ≠ 5 ∧ q ≠ 19 + cR s ∧ q ≠ 25 + cR s ∧ q ≠ 31 + cR s ∧ q ≠ 37 + cR s ∧ q ≠ 43 + cR s ∧ q ≠ 49 + cR s) : adS s p lo hi al q = s q := by
  unfold adS
  generalize cR s = r at *
  rw [upd_ne _ _ (by omega), upd_ne _ _ (by omega), upd_ne _ _ (by omega), upd_ne _ _ (by omega), upd_ne _ _ (by omega), upd_ne _ _ (by omega), upd_ne _ _ (by omega)]
def rcS (s : sS) (p lo hi al w : Int32) (pv : Nat → Nat) : sS := rpN (upd (adS s p lo hi al) (49 + cR s) w) (cR s) (pvP pv) 8
theorem rcS_lo {s : sS} {p lo hi al w : Int32} {pv : Nat → Nat} {q : Nat} (hq : q < 55 + 8 * cR s ∨ 55 + 8 * cR s + 8 ≤ q) (h2 : q ≠ 49 + cR s) : rcS s p lo hi al w pv q = adS s p lo hi al q := by
  unfold rcS
  rw [rpN_out hq 8 (Nat.le_refl 8), upd_ne _ _ h2]
theorem rcS_out {s : sS} {p lo hi al w : Int32} {pv : Nat → Nat} {q : Nat} (hq : q < 55 + 8 * cR s ∨ 55 + 8 * cR s + 8 ≤ q) (h : q ≠ 5 ∧ q ≠ 19 + cR s ∧ q ≠ 25 + cR s ∧ q ≠ 31 + cR s ∧ q ≠ 37 + cR s ∧ q ≠ 43 + cR s ∧ q ≠ 49 + cR s) : rcS s p lo hi al w pv q = s q := by
  rw [rcS_lo hq (by omega), adS_out h]
theorem rcS_w {s : sS} {p lo hi al w : Int32} {pv : Nat → Nat} (h6 : cR s < 6) : rcS s p lo hi al w pv (49 + cR s) = w := by
  unfold rcS
  rw [rpN_out (by omega) 8 (Nat.le_refl 8), upd_at]
theorem rcS_cR {s : sS} {p lo hi al w : Int32} {pv : Nat → Nat} (h6 : cR s < 6) : cR (rcS s p lo hi al w pv) = cR s + 1 := by
  show (rcS s p lo hi al w pv 5).toNatClampNeg = cR s + 1
  rw [rcS_lo (by omega) (by omega), (adS_v h6).1, nI_clamp (by omega)]
theorem P_recipe {N n R : Nat} {σ : xSt} {H : List sS} {s : sS} {T : Nat → Int32} (h : RX σ (H, s, T, 0)) (hG : GH N (H, s, T, 0)) (hr : cR s < R) (hR : R ≤ 4) (h2 : σ 52 2 = nI R) (hc : ∀ i, i < cR s → Rc1 σ s i) : ∃ σ' H' s' T', RX σ' (H', s', T', 0) ∧ GH (N + 3) (H', s', T', 0) ∧ cR s' = cR s + 1 ∧ (∀ i, i < cR s + 1 → Rc1 σ' s' i) ∧ (∀ q, (q = 52 ∨ 58 ≤ q) → σ' q = σ q) ∧ (∀ q, q ≠ 5 → (q < 19 ∨ 103 ≤ q) → s' q = s q) ∧ fL_areMade_c16 (n + 1) (nI (cR s)) σ = fL_areMade_c16 n (nI (cR s + 1)) σ' := by
  obtain ⟨σ9, lo, hi, al, w, p, blo, bhi, bhi2, bal, bw, bp, h54, h55, h57, h56, hk, e9⟩ := P_draw4 σ n hr hR h2
  have hc0 := hG.inv.caps
  have h9 : RX σ9 (H, s, T, 0) := h.cong (fun q hq => hk q (by omega))
  obtain ⟨σ1, h1, g1, k1, e1⟩ := P_addRecipe h9 hG (show cR s < 6 by omega) (p := p) (lo := lo) (hi := hi) (al := al) (by omega) (by omega) (by omega) (by omega)
  have hv := adS_v (s := s) (p := nI p) (lo := nI lo) (hi := nI hi) (al := nI al) (show cR s < 6 by omega)
  have hcR1 : cR (adS s (nI p) (nI lo) (nI hi) (nI al)) = cR s + 1 := by
    show (adS s (nI p) (nI lo) (nI hi) (nI al) 5).toNatClampNeg = cR s + 1
    rw [hv.1, nI_clamp (by omega)]
  obtain ⟨σ2, h2', g2, k2, e2⟩ := P_setWait h1 g1 (r := cR s) (w := w) (by show cR s < cR (adS s (nI p) (nI lo) (nI hi) (nI al)); omega) (by omega)
  have hcR2 : cR s < cR (upd (adS s (nI p) (nI lo) (nI hi) (nI al)) (49 + cR s) (nI w)) := by
    rw [cR_ne _ _ (by omega), hcR1]
    omega
  obtain ⟨pv, σ3, T3, v1, v2, h3, g3, k3, e3⟩ := P_dough (k16 := fL_areMade_c16 n) h2' g2 hcR2
  have kk : kX σ9 σ3 := k1.x.tr (k2.x.tr k3)
  have h6 : cR s < 6 := by omega
  refine ⟨σ3, _, rcS s (nI p) (nI lo) (nI hi) (nI al) (nI w) pv, T3, h3, g3, rcS_cR h6, fun i hi2 => ?_, fun q hq => ?_, fun q hq hq2 => rcS_out (by omega) (by omega), ?_⟩
  · by_cases c : i = cR s
    · subst c
      refine ⟨lo, hi, al, w, p, pv, ⟨?_, ?_, ?_, ?_⟩, ⟨?_, ?_, ?_, ?_, ?_, ?_, fun j hj => rpN_pv j hj⟩, blo, bhi, bhi2, bal, bw, bp, v1, v2⟩
      · rw [kk 54 (by omega) (by omega), h54, upd_at]
      · rw [kk 55 (by omega) (by omega), h55, upd_at]
      · rw [kk 57 (by omega) (by omega), h57, upd_at]
      · rw [kk 56 (by omega) (by omega), h56, upd_at]
      · rw [rcS_lo (by omega) (by omega)]; exact hv.2.1
      · rw [rcS_lo (by omega) (by omega)]; exact hv.2.2.1
      · rw [rcS_lo (by omega) (by omega)]; exact hv.2.2.2.1
      · rw [rcS_lo (by omega) (by omega)]; exact hv.2.2.2.2.1
      · rw [rcS_lo (by omega) (by omega)]; exact hv.2.2.2.2.2.1
      · exact rcS_w h6
    · refine (hc i (by omega)).cg (fun q q1 q2 => ?_) (fun q hq => rcS_out (by omega) (by omega))
      rw [kk q (by omega) (by omega)]
      rcases (show q = 54 ∨ q = 55 ∨ q = 56 ∨ q = 57 by omega) with rfl | rfl | rfl | rfl
      · rw [h54, upd_ne _ _ c]
      · rw [h55, upd_ne _ _ c]
      · rw [h56, upd_ne _ _ c]
      · rw [h57, upd_ne _ _ c]
  · rw [kk q (by omega) (by omega), hk q (by omega)]
  · have w56 : σ1 56 (cR s) = nI w := by rw [k1 56 (by omega), h56, upd_at]
    have e1' : ∀ {β : Type} (K : Int32 → xSt → Option β), xco (fX11_addRecipe (nI p) (nI lo) (nI hi) 100 (nI al) σ9) σ9 K = K (nI (cR s)) σ1 := e1
    have e2' : ∀ {β : Type} (K : Int32 → xSt → Option β), xco (fX11_setWait (nI (cR s)) (nI w) σ1) σ1 K = K 20 σ2 := fun K => by
      rw [← hv.2.2.2.2.2.2]
      exact e2 K
    rw [e9, e1']
    unfold C16
    rw [if_pos rfl, xr_n (by omega) (by omega), w56, e2', if_pos rfl]
    exact e3
