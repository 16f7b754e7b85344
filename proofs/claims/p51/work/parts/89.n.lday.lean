/-! isDay: what is set first -/
theorem P_setHeat {N : Nat} {σ : xSt} {a : xA} (h : RX σ a) (hG : GH N a) {x : Nat} (hx : 20 ≤ x ∧ x ≤ 320) : ∃ σ', RX σ' (kp a.1 a.2.1, upd a.2.1 3 (nI x), a.2.2) ∧ GH (N + 1) (kp a.1 a.2.1, upd a.2.1 3 (nI x), a.2.2) ∧ kL σ σ' ∧ ∀ {β : Type} (K : Int32 → xSt → Option β), xco (fX11_setHeat (nI x) σ) σ K = K (a.2.1 2) σ' := by
  have hc := hG.inv.caps
  refine P_op (X_setHeat (H := a.1) (s := a.2.1) (tx := a.2.2) h hc _) (G_setHeat (H := a.1) (s := a.2.1) (tx := a.2.2) hG _).1 ?_
  unfold sp_setHeat
  rw [if_pos ⟨nI_le (a := 20) hx.1 (by omega), nI_le (b := 320) hx.2 (by decide)⟩]
theorem P_setDecks {N : Nat} {σ : xSt} {a : xA} (h : RX σ a) (hG : GH N a) {x : Nat} (hx : 1 ≤ x ∧ x ≤ 4) : ∃ σ', RX σ' (kp a.1 a.2.1, upd a.2.1 4 (nI x), a.2.2) ∧ GH (N + 1) (kp a.1 a.2.1, upd a.2.1 4 (nI x), a.2.2) ∧ kL σ σ' ∧ ∀ {β : Type} (K : Int32 → xSt → Option β), xco (fX11_setDecks (nI x) σ) σ K = K (a.2.1 4) σ' := by
  have hc := hG.inv.caps
  refine P_op (X_setDecks (H := a.1) (s := a.2.1) (tx := a.2.2) h hc _) (G_setDecks (H := a.1) (s := a.2.1) (tx := a.2.2) hG _).1 ?_
  unfold sp_setDecks
  rw [if_pos ⟨nI_le (a := 1) hx.1 (by omega), nI_le (b := 4) hx.2 (by decide)⟩]
theorem P_setWarmth {N : Nat} {σ : xSt} {a : xA} (h : RX σ a) (hG : GH N a) {x : Nat} (hx : x ≤ 5) : ∃ σ', RX σ' (kp a.1 a.2.1, upd a.2.1 1 (nI x), a.2.2) ∧ GH (N + 1) (kp a.1 a.2.1, upd a.2.1 1 (nI x), a.2.2) ∧ kL σ σ' ∧ ∀ {β : Type} (K : Int32 → xSt → Option β), xco (fX11_setWarmth (nI x) σ) σ K = K (a.2.1 1) σ' := by
  have hc := hG.inv.caps
  refine P_op (X_setWarmth (H := a.1) (s := a.2.1) (tx := a.2.2) h hc _) (G_setWarmth (H := a.1) (s := a.2.1) (tx := a.2.2) hG _).1 ?_
  unfold sp_setWarmth
  rw [if_pos ⟨nI_pos' (by omega), nI_le (b := 5) hx (by decide)⟩]
theorem P_isDayTop {N : Nat} {σ : xSt} {H : List sS} {s : sS} {T : Nat → Int32} (h : RX σ (H, s, T, 0)) (hG : GH N (H, s, T, 0)) {D W : Nat} (hD : 1 ≤ D ∧ D ≤ 3) (hW : W ≤ 5) (h4 : σ 52 4 = nI D) (h5 : σ 52 5 = nI W) (s1 : s 1 = 2) (s2 : ¬ s 2 < 20) (s4 : ¬ s 4 < 1) : ∃ σ' H' s' q m, RX σ' (H', s', T, 0) ∧ GH (N + 3) (H', s', T, 0) ∧ (100 ≤ q ∧ q < 130) ∧ (6 ≤ m ∧ m ≤ 15) ∧ s' = upd (upd (upd s 3 (nI q)) 4 (nI D)) 1 (nI W) ∧ kX σ σ' ∧ fL_isDay σ = fL_isDay_c69 xF17 (nI m) σ' := by
  obtain ⟨x, σ1, hx, e1, k1⟩ := P_next σ (n := 30) (by omega) (by omega)
  have e1 : fX12_next 30 σ = some (nI x, σ1) := e1
  obtain ⟨σ2, h2, g2, k2, e2⟩ := P_setHeat (k53.RX k1 h) hG (x := x + 100) (by omega)
  obtain ⟨σ3, h3, g3, k3, e3⟩ := P_setDecks h2 g2 (x := D) (by omega)
  obtain ⟨σ4, h4', g4, k4, e4⟩ := P_setWarmth h3 g3 (x := W) hW
  obtain ⟨y, σ5, hy, e5, k5⟩ := P_next σ4 (n := 10) (by omega) (by omega)
  have e5 : fX12_next 10 σ4 = some (nI y, σ5) := e5
  have d2 : σ2 52 4 = nI D := by rw [k2 52 (by omega), k1 52 (by omega)]; exact h4
  have w3 : σ3 52 5 = nI W := by rw [k3 52 (by omega), k2 52 (by omega), k1 52 (by omega)]; exact h5
  refine ⟨σ5, _, _, x + 100, y + 6, k53.RX k5 h4', g4, by omega, by omega, rfl, (k53.x k1).tr (k2.x.tr (k3.x.tr (k4.x.tr (k53.x k5)))), ?_⟩
  have a1 : 100 + nI x = nI (x + 100) := by
    rw [Int32.add_comm]
    exact (Int32.ofNat_add x 100).symm
  have a2 : 6 + nI y = nI (y + 6) := by
    rw [Int32.add_comm]
    exact (Int32.ofNat_add y 6).symm
  have r2 : ∀ {β : Type} (K : Int32 → xSt → Option β), xco (fX11_setHeat (nI (x + 100)) σ1) σ1 K = K (s 2) σ2 := e2
  have r3 : ∀ {β : Type} (K : Int32 → xSt → Option β), xco (fX11_setDecks (nI D) σ2) σ2 K = K (s 4) σ3 := fun K => by
    rw [show s 4 = upd s 3 (nI (x + 100)) 4 from (upd_ne _ _ (by omega)).symm]
    exact e3 K
  have r4 : ∀ {β : Type} (K : Int32 → xSt → Option β), xco (fX11_setWarmth (nI W) σ3) σ3 K = K 2 σ4 := fun K => by
    rw [← s1, show s 1 = upd (upd s 3 (nI (x + 100))) 4 (nI D) 1 by rw [upd_ne _ _ (by omega), upd_ne _ _ (by omega)]]
    exact e4 K
  unfold fL_isDay
  rw [xc2_s e1, a1, r2, if_neg s2, d2, r3, if_neg s4, w3, r4, if_pos rfl, xc2_s e5]
  unfold xl
  dsimp only
  rw [a2]
