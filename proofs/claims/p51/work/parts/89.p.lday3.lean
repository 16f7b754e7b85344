/-! isDay: the hour, and what is asked of a dough -/
theorem P_now {σ : xSt} {a : xA} (h : RX σ a) : ∀ {β : Type} (K : Int32 → xSt → Option β), xcm (fX11_now σ) σ K = K (a.2.1 0) σ := fun K => xcm_same (X_now h) K
def dAt (s : sS) (k p : Nat) : Int32 := if p = 0 then s (103 + k) else if p = 1 then s (123 + k) else if p = 2 then s (143 + k) else s (163 + k)
theorem P_doughAt {N : Nat} {σ : xSt} {a : xA} (h : RX σ a) (hG : GH N a) {k p : Nat} (hk : k < cD a.2.1) (hp : p ≤ 3) : ∃ σ', RX σ' a ∧ kL σ σ' ∧ ∀ {β : Type} (K : Int32 → xSt → Option β), xco (fX11_doughAt (nI k) (nI p) σ) σ K = K (dAt a.2.1 k p) σ' := by
  have hc := hG.inv.caps
  have h20 : cD a.2.1 ≤ 20 := hc.2.1
  refine P_ask (X_doughAt (H := a.1) (s := a.2.1) (tx := a.2.2) h hG.inv _ _) ?_
  unfold sp_doughAt dAt
  have h1 : 0 ≤ nI k ∧ nI k ≤ (a.1, a.2.1, a.2.2).2.1 6 - 1 := d_in hc hk
  rw [if_pos h1, if_pos ⟨nI_pos' (by omega), nI_le (b := 6) (by omega) (by decide)⟩, nI_clamp (show k < 2 ^ 31 by omega)]
  rcases (show p = 0 ∨ p = 1 ∨ p = 2 ∨ p = 3 by omega) with rfl | rfl | rfl | rfl <;> rfl
