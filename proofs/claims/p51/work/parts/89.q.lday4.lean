/-! isDay: time that passes, and a dough that is shaped -/
theorem P_pass {N : Nat} {σ : xSt} {H : List sS} {s : sS} {tx : (Nat → Int32) × Nat} (h : RX σ (H, s, tx)) (hG : GH N (H, s, tx)) (hN : N ≤ 1000) {n : Nat} (hn : 1 ≤ n ∧ n ≤ 200) (hp : ¬ 100000 < s 0 + nI n) : ∃ σ', RX σ' (kp H s, tkN s n, tx) ∧ GH (N + 1) (kp H s, tkN s n, tx) ∧ kL σ σ' ∧ ∀ {β : Type} (K : Int32 → xSt → Option β), xco (fX11_pass (nI n) σ) σ K = K (tkN s n 0) σ' := by
  have hx := ((X_pass h hG.inv (nI n)).2 n hn.1 hn.2 rfl).2 hp
  obtain ⟨σ', h1, k1, e1⟩ := xco_XR (σ := σ) hx rfl
  exact ⟨σ', h1, G_pass hG hN hn.2 hp, k1, e1⟩
def shQ (s : sS) (k : Nat) : Prop := s (163 + k) = 0 ∧ (s (25 + drc s k) ≤ s (143 + k) ∧ s (143 + k) ≤ s (31 + drc s k))
theorem P_shape {N : Nat} {σ : xSt} {H : List sS} {s : sS} {tx : (Nat → Int32) × Nat} (h : RX σ (H, s, tx)) (hG : GH N (H, s, tx)) {k : Nat} (hk : k < cD s) (q : shQ s k) : ∃ σ', RX σ' (kp H s, upd (upd s (163 + k) 1) (183 + k) (s 0), tx) ∧ GH (N + 1) (kp H s, upd (upd s (163 + k) 1) (183 + k) (s 0), tx) ∧ kL σ σ' ∧ ∀ {β : Type} (K : Int32 → xSt → Option β), xco (fX11_shape (nI k) σ) σ K = K (s (143 + k)) σ' := by
  have hc := hG.inv.caps
  have h20 : cD s ≤ 20 := hc.2.1
  refine P_op (X_shape h hG.inv (nI k)) (G_shape hG _).1 ?_
  have h1 : 0 ≤ nI k ∧ nI k ≤ (H, s, tx).2.1 6 - 1 := d_in hc hk
  unfold sp_shape
  rw [if_pos h1, nI_clamp (show k < 2 ^ 31 by omega)]
  exact if_pos q
