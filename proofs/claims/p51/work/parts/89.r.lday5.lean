/-! isDay: a pass of the clock, whole -/
theorem P_c173 {N : Nat} {σ : xSt} {H : List sS} {s : sS} {tx : (Nat → Int32) × Nat} (h : RX σ (H, s, tx)) (hG : GH N (H, s, tx)) (hN : N ≤ 1000) {n : Nat} (hn : 1 ≤ n ∧ n ≤ 200) (hp : ¬ 100000 < s 0 + nI n) : ∃ σ', RX σ' (kp H s, pS s n, tx) ∧ GH (N + 1) (kp H s, pS s n, tx) ∧ kL σ σ' ∧ ∀ (k69 : Int32 → xSt → Option (Int32 × xSt)) (a1 : Int32), fL_isDay_c173 k69 a1 (s 0) (nI n) σ = fL_isDay_c470 k69 a1 σ' := by
  have hI : Inv N s := hG.inv
  have e0 : tkN s n = pS s n := tkN_pS hI n hn.2
  have p0 : pS s n 0 = s 0 + nI n := by
    unfold pS
    rw [if_pos rfl]
  obtain ⟨σ', h1, g1, k1, e1⟩ := P_pass h hG hN hn hp
  rw [e0] at h1 g1 e1
  refine ⟨σ', h1, g1, k1, fun k69 a1 => ?_⟩
  unfold fL_isDay_c173
  rw [e1, p0, if_pos rfl]
