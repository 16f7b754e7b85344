/-! isDay: a dough shaped, whole -/
theorem P_doughAt5 {N : Nat} {σ : xSt} {a : xA} (h : RX σ a) (hG : GH N a) {k : Nat} (hk : k < cD a.2.1) : ∃ σ', RX σ' a ∧ kL σ σ' ∧ ∀ {β : Type} (K : Int32 → xSt → Option β), xco (fX11_doughAt (nI k) 5 σ) σ K = K (a.2.1 (183 + k)) σ' := by
  have hc := hG.inv.caps
  have h20 : cD a.2.1 ≤ 20 := hc.2.1
  refine P_ask (X_doughAt (H := a.1) (s := a.2.1) (tx := a.2.2) h hG.inv _ _) ?_
  unfold sp_doughAt
  have h1 : 0 ≤ nI k ∧ nI k ≤ (a.1, a.2.1, a.2.2).2.1 6 - 1 := d_in hc hk
  rw [if_pos h1, if_pos (by decide), nI_clamp (show k < 2 ^ 31 by omega)]
  rfl
theorem P_c283 {N : Nat} {σ : xSt} {H : List sS} {s : sS} {tx : (Nat → Int32) × Nat} (h : RX σ (H, s, tx)) (hG : GH N (H, s, tx)) {k : Nat} (hk : k < cD s) (q : shQ s k) : ∃ σ', RX σ' (kp H s, upd (upd s (163 + k) 1) (183 + k) (s 0), tx) ∧ GH (N + 1) (kp H s, upd (upd s (163 + k) 1) (183 + k) (s 0), tx) ∧ kL σ σ' ∧ ∀ (k69 : Int32 → xSt → Option (Int32 × xSt)) (a1 : Int32), fL_isDay_c283 k69 a1 (nI k) (s (143 + k)) 1 σ = fL_isDay_c324 k69 a1 σ' := by
  obtain ⟨σ1, h1, g1, k1, e1⟩ := P_shape h hG hk q
  have hk1 : k < cD (upd (upd s (163 + k) 1) (183 + k) (s 0)) := by
    show k < (upd (upd s (163 + k) 1) (183 + k) (s 0) 6).toNatClampNeg
    rw [upd_ne _ _ (by omega), upd_ne _ _ (by omega)]
    exact hk
  obtain ⟨σ2, h2, k2, e2⟩ := P_doughAt5 h1 g1 hk1
  refine ⟨σ2, h2, g1, k1.tr k2, fun k69 a1 => ?_⟩
  have v1 : (upd (upd s (163 + k) 1) (183 + k) (s 0)) (183 + k) = s 0 := upd_at _ _ _
  have v2 : (upd (upd s (163 + k) 1) (183 + k) (s 0)) 0 = s 0 := by rw [upd_ne _ _ (by omega), upd_ne _ _ (by omega)]
  have e2' : ∀ {β : Type} (K : Int32 → xSt → Option β), xco (fX11_doughAt (nI k) 5 σ1) σ1 K = K (s 0) σ2 := fun K => by
    rw [← v1]
    exact e2 K
  have e3' : ∀ {β : Type} (K : Int32 → xSt → Option β), xcm (fX11_now σ2) σ2 K = K (s 0) σ2 := fun K => by
    rw [← v2]
    exact P_now h2 K
  unfold fL_isDay_c283
  rw [if_neg (by decide), e1, if_pos rfl, e2', e3', if_pos rfl]
