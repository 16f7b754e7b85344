/-! the areMade loops: one recipe drawn and entered -/
def C16 (n : Nat) (a1 : Int32) : Int32 → xSt → Option (Int32 × xSt) := fun r22 σ23 => (if r22 = a1 then (xr σ23 56 4 a1 fun v24 => (xco (fX11_setWait a1 v24 σ23) σ23 fun r25 σ26 => (if r25 = 20 then fL_areMade_c178 (fL_areMade_c16 n) xF9 a1 0 0 (fun _ => 0) 0 (fun _ => 0) σ26 else some (0, σ26)))) else some (0, σ23))
theorem P_draw4 (σ : xSt) {r R : Nat} (n : Nat) (hr : r < R) (hR : R ≤ 4) (h2 : σ 52 2 = nI R) : ∃ σ9 lo hi al w p, (1 ≤ lo ∧ lo ≤ 30) ∧ lo ≤ hi ∧ hi ≤ lo + 39 ∧ al < 16 ∧ (5 ≤ w ∧ w ≤ 44) ∧ (50 ≤ p ∧ p ≤ 109) ∧ σ9 54 = upd (σ 54) r (nI lo) ∧ σ9 55 = upd (σ 55) r (nI hi) ∧ σ9 57 = upd (σ 57) r (nI al) ∧ σ9 56 = upd (σ 56) r (nI w) ∧ (∀ q, q < 53 ∨ 57 < q → σ9 q = σ q) ∧ fL_areMade_c16 (n + 1) (nI r) σ = xco (fX11_addRecipe (nI p) (nI lo) (nI hi) 100 (nI al) σ9) σ9 (C16 n (nI r)) := by
  obtain ⟨a, σ1, ha, e1, k1⟩ := P_next σ (n := 30) (by omega) (by omega)
  have e1 : fX12_next 30 σ = some (nI a, σ1) := e1
  obtain ⟨σ2, s2⟩ : ∃ z, z = xu σ1 54 r (nI (a + 1)) := ⟨_, rfl⟩
  obtain ⟨b, σ3, hb, e3, k3⟩ := P_next σ2 (n := 40) (by omega) (by omega)
  have e3 : fX12_next 40 σ2 = some (nI b, σ3) := e3
  obtain ⟨σ4, s4⟩ : ∃ z, z = xu σ3 55 r (nI (a + 1 + b)) := ⟨_, rfl⟩
  obtain ⟨c, σ5, hc, e5, k5⟩ := P_next σ4 (n := 16) (by omega) (by omega)
  have e5 : fX12_next 16 σ4 = some (nI c, σ5) := e5
  obtain ⟨σ6, s6⟩ : ∃ z, z = xu σ5 57 r (nI c) := ⟨_, rfl⟩
  obtain ⟨d, σ7, hd, e7, k7⟩ := P_next σ6 (n := 40) (by omega) (by omega)
  have e7 : fX12_next 40 σ6 = some (nI d, σ7) := e7
  obtain ⟨σ8, s8⟩ : ∃ z, z = xu σ7 56 r (nI (d + 5)) := ⟨_, rfl⟩
  obtain ⟨e, σ9, he, e9, k9⟩ := P_next σ8 (n := 60) (by omega) (by omega)
  have e9 : fX12_next 60 σ8 = some (nI e, σ9) := e9
  have h54 : σ9 54 = upd (σ 54) r (nI (a + 1)) := by
    rw [k9 54 (by omega), s8, xu_ne _ _ _ (by omega), k7 54 (by omega), s6, xu_ne _ _ _ (by omega), k5 54 (by omega), s4, xu_ne _ _ _ (by omega), k3 54 (by omega), s2, xu_at, k1 54 (by omega)]
  have h55 : σ9 55 = upd (σ 55) r (nI (a + 1 + b)) := by
    rw [k9 55 (by omega), s8, xu_ne _ _ _ (by omega), k7 55 (by omega), s6, xu_ne _ _ _ (by omega), k5 55 (by omega), s4, xu_at, k3 55 (by omega), s2, xu_ne _ _ _ (by omega), k1 55 (by omega)]
  have h57 : σ9 57 = upd (σ 57) r (nI c) := by
    rw [k9 57 (by omega), s8, xu_ne _ _ _ (by omega), k7 57 (by omega), s6, xu_at, k5 57 (by omega), s4, xu_ne _ _ _ (by omega), k3 57 (by omega), s2, xu_ne _ _ _ (by omega), k1 57 (by omega)]
  have h56 : σ9 56 = upd (σ 56) r (nI (d + 5)) := by
    rw [k9 56 (by omega), s8, xu_at, k7 56 (by omega), s6, xu_ne _ _ _ (by omega), k5 56 (by omega), s4, xu_ne _ _ _ (by omega), k3 56 (by omega), s2, xu_ne _ _ _ (by omega), k1 56 (by omega)]
  refine ⟨σ9, a + 1, a + 1 + b, c, d + 5, e + 50, by omega, by omega, by omega, hc, by omega, by omega, h54, h55, h57, h56, fun q hq => ?_, ?_⟩
  · rw [k9 q (by omega), s8, xu_ne _ _ _ (by omega), k7 q (by omega), s6, xu_ne _ _ _ (by omega), k5 q (by omega), s4, xu_ne _ _ _ (by omega), k3 q (by omega), s2, xu_ne _ _ _ (by omega), k1 q (by omega)]
  · have v2 : σ2 54 r = nI (a + 1) := by rw [s2, xu_at, upd_at]
    have v54 : σ9 54 r = nI (a + 1) := by rw [h54, upd_at]
    have v55 : σ9 55 r = nI (a + 1 + b) := by rw [h55, upd_at]
    have v57 : σ9 57 r = nI c := by rw [h57, upd_at]
    have a1 : 1 + nI a = nI (a + 1) := by rw [nI_succ, Int32.add_comm]
    have a2 : nI (a + 1) + nI b = nI (a + 1 + b) := (Int32.ofNat_add _ _).symm
    have a3 : 5 + nI d = nI (d + 5) := by
      rw [Int32.add_comm]
      exact (Int32.ofNat_add d 5).symm
    have a4 : 50 + nI e = nI (e + 50) := by
      rw [Int32.add_comm]
      exact (Int32.ofNat_add e 50).symm
    rw [fL_areMade_c16_s, h2, if_neg (nI_ge hr (by omega)), xc2_s e1, xs_n (by omega) (by omega), a1, ← s2, xr_n (by omega) (by omega), v2, xc2_s e3, xs_n (by omega) (by omega), a2, ← s4, xc2_s e5, xs_n (by omega) (by omega), ← s6, xc2_s e7, xs_n (by omega) (by omega), a3, ← s8, xc2_s e9, xr_n (by omega) (by omega), v54, xr_n (by omega) (by omega), v55, xr_n (by omega) (by omega), v57, a4]
    rfl
