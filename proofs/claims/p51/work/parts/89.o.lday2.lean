/-! isDay: mixing and baking as the law calls them -/
theorem xch_l {f : Option (xO × xSt)} {σ : xSt} {a : xA} {r : Int32} (h : XR f (.inl r, a)) (k : Nat) (v : Int32) : ∃ σ', RX σ' a ∧ kL σ σ' ∧ xch f σ k v = some (r, σ') := by
  obtain ⟨τ, h1, h2⟩ := h
  exact ⟨xmix τ σ, xmix_RX h2, xmix_kL, by rw [h1]; rfl⟩
theorem xch_r {f : Option (xO × xSt)} {σ : xSt} {a : xA} {k : Nat} (h : XR f (.inr k, a)) (v : Int32) : ∃ σ', RX σ' a ∧ kL σ σ' ∧ xch f σ k v = some (v, σ') := by
  obtain ⟨τ, h1, h2⟩ := h
  refine ⟨xmix τ σ, xmix_RX h2, xmix_kL, ?_⟩
  rw [h1]
  exact if_pos rfl
theorem P_mixed {N : Nat} {σ : xSt} {H : List sS} {s : sS} {tx : (Nat → Int32) × Nat} (h : RX σ (H, s, tx)) (hG : GH N (H, s, tx)) (hN : N ≤ 1000) {r pc : Nat} (hr : r < cR s) (hp : 1 ≤ pc ∧ pc ≤ 40) : (¬ mixQ s r (nI pc) → ∃ σ', RX σ' (H, s, tx) ∧ kL σ σ' ∧ fL_mixed (nI r) (nI pc) σ = some (-1, σ')) ∧ (mixQ s r (nI pc) → ∃ σ', RX σ' (kp H s, mixS s r (nI pc), tx) ∧ GH (N + 1) (kp H s, mixS s r (nI pc), tx) ∧ kL σ σ' ∧ fL_mixed (nI r) (nI pc) σ = some (nI (cD s), σ')) := by
  have hpc : 1 ≤ nI pc ∧ nI pc ≤ 40 := ⟨nI_le (a := 1) hp.1 (by omega), nI_le (b := 40) hp.2 (by decide)⟩
  have hx := ((X_mix h hG.inv hG.cles (nI r) (nI pc)).2 r hr rfl).2 hpc
  refine ⟨fun q => xch_r (hx.1 q) _, fun q => ?_⟩
  obtain ⟨σ', h1, k1, e1⟩ := xch_l (σ := σ) (hx.2 q) 2 (-1)
  exact ⟨σ', h1, G_mix hG hN hr hpc q, k1, e1⟩
theorem P_baked {N : Nat} {σ : xSt} {H : List sS} {s : sS} {tx : (Nat → Int32) × Nat} (h : RX σ (H, s, tx)) (hG : GH N (H, s, tx)) {k : Nat} (hk : k < cD s) : (¬ bakeQ s k → ∃ σ', RX σ' (H, s, tx) ∧ kL σ σ' ∧ fL_baked (nI k) σ = some (-1, σ')) ∧ (bakeQ s k → ∃ σ', RX σ' (kp H s, upd (upd s (163 + k) 2) (203 + k) (s 0), tx) ∧ GH (N + 1) (kp H s, upd (upd s (163 + k) 2) (203 + k) (s 0), tx) ∧ kL σ σ' ∧ fL_baked (nI k) σ = some (s 0 + 10, σ')) := by
  have hx := (X_bake h hG.inv (nI k)).2 k hk rfl
  refine ⟨fun q => xch_r (hx.1 q) _, fun q => ?_⟩
  obtain ⟨σ', h1, k1, e1⟩ := xch_l (σ := σ) (hx.2 q) 2 (-1)
  exact ⟨σ', h1, G_bake hG hk q, k1, e1⟩
