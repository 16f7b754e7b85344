/-! ===== EVERY CALL: both go on, and answer alike ===== -/
def PC (fx : Option (xO × xSt)) (fm : Option (Int32 × xSt)) (c0 c1 c2 c3 : Int32) (K : Nat → Prop) (N : Nat) : Prop := ∃ (o : xO) (b : Int32) (σ1 τ1 : xSt) (a : xA), fx = some (o, σ1) ∧ fm = some (b, τ1) ∧ (∀ k, o = .inr k → K k) ∧ τ1 0 0 = xcd c0 c1 c2 c3 o ∧ (∀ v, o = .inl v → v = b) ∧ RX σ1 a ∧ RM τ1 a ∧ GH N a
def PV {α : Type} (fx fm : Option (α × xSt)) (N : Nat) : Prop := ∃ (v : α) (σ1 τ1 : xSt) (a : xA), fx = some (v, σ1) ∧ fm = some (v, τ1) ∧ RX σ1 a ∧ RM τ1 a ∧ GH N a
theorem PC_of {fx : Option (xO × xSt)} {fm : Option (Int32 × xSt)} {c0 c1 c2 c3 : Int32} {K : Nat → Prop} {N : Nat} {sp : xO × xA} (hX : XR fx sp) (hM : MR fm c0 c1 c2 c3 sp) (hG : GH N sp.2 ∧ ∀ k, sp.1 = .inr k → K k) : PC fx fm c0 c1 c2 c3 K N := by
  obtain ⟨σ1, e1, r1⟩ := hX
  obtain ⟨b, τ1, e2, r2, e3, e4⟩ := hM
  exact ⟨sp.1, b, σ1, τ1, sp.2, e1, e2, hG.2, e3, e4, r1, r2, hG.1⟩
theorem PV_of {fx fm : Option (Int32 × xSt)} {N : Nat} {sp : Int32 × xA} (hX : XRi fx sp) (hM : MRi fm sp) (hG : GH N sp.2) : PV fx fm N := by
  obtain ⟨σ1, e1, r1⟩ := hX
  obtain ⟨τ1, e2, r2⟩ := hM
  exact ⟨sp.1, σ1, τ1, sp.2, e1, e2, r1, r2, hG⟩
theorem PC_two {fx : Option (xO × xSt)} {fm : Option (Int32 × xSt)} {c0 c1 c2 c3 : Int32} {K : Nat → Prop} {N : Nat} {a : xA} (h : ∃ o, XR fx (o, a) ∧ MR fm c0 c1 c2 c3 (o, a) ∧ ∀ k, o = .inr k → K k) (hG : GH N a) : PC fx fm c0 c1 c2 c3 K N := by
  obtain ⟨o, h1, h2, h3⟩ := h
  exact PC_of h1 h2 ⟨hG, h3⟩
theorem P_receive {N : Nat} {σ τ : xSt} {H : List sS} {s : sS} {tx : (Nat → Int32) × Nat} (hx : RX σ (H, s, tx)) (hm : RM τ (H, s, tx)) (hG : GH N (H, s, tx)) (hN : N ≤ 1000) (p0 p1 : Int32) : PC (fX11_receive p0 p1 σ) (fX12_receive p0 p1 τ) 1 2 3 9 (fun k => k = 0 ∨ k = 1 ∨ k = 2) (N + 1) := PC_of (X_receive hx hG.1.caps p0 p1) (M_receive hm hG.1.caps p0 p1) (G_receive hG hN p0 p1)
theorem P_store {N : Nat} {σ τ : xSt} {H : List sS} {s : sS} {tx : (Nat → Int32) × Nat} (hx : RX σ (H, s, tx)) (hm : RM τ (H, s, tx)) (hG : GH N (H, s, tx)) (hN : N ≤ 1000) (p0 : Int32) : PC (fX11_store p0 σ) (fX12_store p0 τ) 1 9 9 9 (fun k => k = 0) (N + 1) := PC_of (X_store hx hG.1.caps p0) (M_store hm hG.1.caps p0) (G_store hG p0)
theorem P_addRecipe {N : Nat} {σ τ : xSt} {H : List sS} {s : sS} {tx : (Nat → Int32) × Nat} (hx : RX σ (H, s, tx)) (hm : RM τ (H, s, tx)) (hG : GH N (H, s, tx)) (hN : N ≤ 1000) (p0 p1 p2 p3 p4 : Int32) : PC (fX11_addRecipe p0 p1 p2 p3 p4 σ) (fX12_addRecipe p0 p1 p2 p3 p4 τ) 9 1 2 9 (fun k => k = 1 ∨ k = 2) (N + 1) := PC_of (X_addRecipe hx hG.1.caps (fun x h => (hG.2.1 x h).2) p0 p1 p2 p3 p4) (M_addRecipe hm hG.1.caps p0 p1 p2 p3 p4) (G_addRecipe hG p0 p1 p2 p3 p4)
theorem P_setWait {N : Nat} {σ τ : xSt} {H : List sS} {s : sS} {tx : (Nat → Int32) × Nat} (hx : RX σ (H, s, tx)) (hm : RM τ (H, s, tx)) (hG : GH N (H, s, tx)) (hN : N ≤ 1000) (p0 p1 : Int32) : PC (fX11_setWait p0 p1 σ) (fX12_setWait p0 p1 τ) 1 2 9 9 (fun k => k = 0 ∨ k = 1) (N + 1) := PC_of (X_setWait hx hG.1.caps p0 p1) (M_setWait hm hG.1.caps p0 p1) (G_setWait hG p0 p1)
theorem P_setPart {N : Nat} {σ τ : xSt} {H : List sS} {s : sS} {tx : (Nat → Int32) × Nat} (hx : RX σ (H, s, tx)) (hm : RM τ (H, s, tx)) (hG : GH N (H, s, tx)) (hN : N ≤ 1000) (p0 p1 p2 : Int32) : PC (fX11_setPart p0 p1 p2 σ) (fX12_setPart p0 p1 p2 τ) 1 2 9 9 (fun k => k = 0 ∨ k = 1) (N + 1) := PC_of (X_setPart hx hG.1.caps p0 p1 p2) (M_setPart hm hG.1.caps p0 p1 p2) (G_setPart hG p0 p1 p2)
theorem P_readParts {N : Nat} {σ τ : xSt} {H : List sS} {s : sS} {tx : (Nat → Int32) × Nat} (hx : RX σ (H, s, tx)) (hm : RM τ (H, s, tx)) (hG : GH N (H, s, tx)) (hN : N ≤ 1000) (p0 : Int32) : PC (fX11_readParts p0 σ) (fX12_readParts p0 τ) 1 2 9 9 (fun k => k = 0 ∨ k = 1) (N + 1) := PC_of (X_readParts hx hG.1 p0) (M_readParts hm hG.1 p0) (G_readParts hG p0)
theorem P_amount {N : Nat} {σ τ : xSt} {H : List sS} {s : sS} {tx : (Nat → Int32) × Nat} (hx : RX σ (H, s, tx)) (hm : RM τ (H, s, tx)) (hG : GH N (H, s, tx)) (hN : N ≤ 1000) (p0 p1 p2 : Int32) : PC (fX11_amount p0 p1 p2 σ) (fX12_amount p0 p1 p2 τ) 1 2 3 9 (fun k => k = 0 ∨ k = 1 ∨ k = 2) (N + 1) := PC_of (X_amount hx hG.1 p0 p1 p2) (M_amount hm hG.1 p0 p1 p2) (G_amount hG p0 p1 p2)
theorem P_recipeCount {N : Nat} {σ τ : xSt} {H : List sS} {s : sS} {tx : (Nat → Int32) × Nat} (hx : RX σ (H, s, tx)) (hm : RM τ (H, s, tx)) (hG : GH N (H, s, tx)) (hN : N ≤ 1000) : PV (fX11_recipeCount σ) (fX12_recipeCount τ) (N + 1) := ⟨s 5, σ, _, (H, s, tx), X_recipeCount hx, M_recipeCount hm, hx, hm.raised 0, hG.succ⟩
theorem P_mix {N : Nat} {σ τ : xSt} {H : List sS} {s : sS} {tx : (Nat → Int32) × Nat} (hx : RX σ (H, s, tx)) (hm : RM τ (H, s, tx)) (hG : GH N (H, s, tx)) (hN : N ≤ 1000) (p0 p1 : Int32) : PC (fX11_mix p0 p1 σ) (fX12_mix p0 p1 τ) 1 2 3 9 (fun k => k = 0 ∨ k = 1 ∨ k = 2) (N + 1) := by
  obtain ⟨x0, x1⟩ := X_mix hx hG.1 (fun x h => (hG.2.1 x h).2) p0 p1
  obtain ⟨m0, m1⟩ := M_mix hm hG.1 p0 p1
  have hc : caps s := hG.1.caps
  have h6 := hc.1
  by_cases g : 0 ≤ p0 ∧ p0 ≤ s 5 - 1
  · obtain ⟨r, hr, e⟩ := x_cnt hc.2.2.2.2.2.1 (by omega) g
    have hr : r < cR s := hr
    obtain ⟨x2, x3⟩ := x1 r hr e
    obtain ⟨m2, m3⟩ := m1 r hr e
    by_cases g2 : 1 ≤ p1 ∧ p1 ≤ 40
    · by_cases g3 : mixQ s r p1
      · exact PC_of ((x3 g2).2 g3) ((m3 g2).2 g3) ⟨G_mix hG hN hr g2 g3, fun k hk => nomatch hk⟩
      · exact PC_of ((x3 g2).1 g3) ((m3 g2).1 g3) ⟨hG.succ, fun k hk => by cases hk; decide⟩
    · exact PC_of (x2 g2) (m2 g2) ⟨hG.succ, fun k hk => by cases hk; decide⟩
  · exact PC_of (x0 g) (m0 g) ⟨hG.succ, fun k hk => by cases hk; decide⟩
theorem P_setWarmth {N : Nat} {σ τ : xSt} {H : List sS} {s : sS} {tx : (Nat → Int32) × Nat} (hx : RX σ (H, s, tx)) (hm : RM τ (H, s, tx)) (hG : GH N (H, s, tx)) (hN : N ≤ 1000) (p0 : Int32) : PC (fX11_setWarmth p0 σ) (fX12_setWarmth p0 τ) 9 1 9 9 (fun k => k = 1) (N + 1) := PC_of (X_setWarmth hx hG.1.caps p0) (M_setWarmth hm hG.1.caps p0) (G_setWarmth hG p0)
theorem P_pass {N : Nat} {σ τ : xSt} {H : List sS} {s : sS} {tx : (Nat → Int32) × Nat} (hx : RX σ (H, s, tx)) (hm : RM τ (H, s, tx)) (hG : GH N (H, s, tx)) (hN : N ≤ 1000) (p0 : Int32) : PC (fX11_pass p0 σ) (fX12_pass p0 τ) 9 1 2 9 (fun k => k = 1 ∨ k = 2) (N + 1) := by
  obtain ⟨x0, x1⟩ := X_pass hx hG.1 p0
  obtain ⟨m0, m1⟩ := M_pass hm hG.1 p0
  by_cases g : 1 ≤ p0 ∧ p0 ≤ 200
  · obtain ⟨n, n1, n2, e⟩ := x_rng (a := 1) (b := 200) rfl (by decide) (by decide) (by decide) g
    obtain ⟨x2, x3⟩ := x1 n n1 n2 e
    obtain ⟨m2, m3⟩ := m1 n n1 n2 e
    by_cases g2 : 100000 < s 0 + p0
    · exact PC_of (x2 g2) (m2 g2) ⟨hG.succ, fun k hk => by cases hk; decide⟩
    · exact PC_of (x3 g2) (m3 g2) ⟨G_pass hG hN n2 (by rw [← e]; exact g2), fun k hk => nomatch hk⟩
  · exact PC_of (x0 g) (m0 g) ⟨hG.succ, fun k hk => by cases hk; decide⟩
theorem P_now {N : Nat} {σ τ : xSt} {H : List sS} {s : sS} {tx : (Nat → Int32) × Nat} (hx : RX σ (H, s, tx)) (hm : RM τ (H, s, tx)) (hG : GH N (H, s, tx)) (hN : N ≤ 1000) : PV (fX11_now σ) (fX12_now τ) (N + 1) := ⟨s 0, σ, _, (H, s, tx), X_now hx, M_now hm, hx, hm.raised 0, hG.succ⟩
theorem P_shape {N : Nat} {σ τ : xSt} {H : List sS} {s : sS} {tx : (Nat → Int32) × Nat} (hx : RX σ (H, s, tx)) (hm : RM τ (H, s, tx)) (hG : GH N (H, s, tx)) (hN : N ≤ 1000) (p0 : Int32) : PC (fX11_shape p0 σ) (fX12_shape p0 τ) 1 9 2 9 (fun k => k = 0 ∨ k = 2) (N + 1) := PC_of (X_shape hx hG.1 p0) (M_shape hm hG.1 p0) (G_shape hG p0)
theorem P_doughAt {N : Nat} {σ τ : xSt} {H : List sS} {s : sS} {tx : (Nat → Int32) × Nat} (hx : RX σ (H, s, tx)) (hm : RM τ (H, s, tx)) (hG : GH N (H, s, tx)) (hN : N ≤ 1000) (p0 p1 : Int32) : PC (fX11_doughAt p0 p1 σ) (fX12_doughAt p0 p1 τ) 1 2 9 9 (fun k => k = 0 ∨ k = 1) (N + 1) := PC_of (X_doughAt hx hG.1 p0 p1) (M_doughAt hm hG.1 p0 p1) (G_doughAt hG p0 p1)
theorem P_throwAway {N : Nat} {σ τ : xSt} {H : List sS} {s : sS} {tx : (Nat → Int32) × Nat} (hx : RX σ (H, s, tx)) (hm : RM τ (H, s, tx)) (hG : GH N (H, s, tx)) (hN : N ≤ 1000) (p0 : Int32) : PC (fX11_throwAway p0 σ) (fX12_throwAway p0 τ) 1 9 2 9 (fun k => k = 0 ∨ k = 2) (N + 1) := PC_of (X_throwAway hx hG.1 p0) (M_throwAway hm hG.1 p0) (G_throwAway hG hN p0)
theorem P_doughCount {N : Nat} {σ τ : xSt} {H : List sS} {s : sS} {tx : (Nat → Int32) × Nat} (hx : RX σ (H, s, tx)) (hm : RM τ (H, s, tx)) (hG : GH N (H, s, tx)) (hN : N ≤ 1000) : PV (fX11_doughCount σ) (fX12_doughCount τ) (N + 1) := ⟨s 6, σ, _, (H, s, tx), X_doughCount hx, M_doughCount hm, hx, hm.raised 0, hG.succ⟩
theorem P_setHeat {N : Nat} {σ τ : xSt} {H : List sS} {s : sS} {tx : (Nat → Int32) × Nat} (hx : RX σ (H, s, tx)) (hm : RM τ (H, s, tx)) (hG : GH N (H, s, tx)) (hN : N ≤ 1000) (p0 : Int32) : PC (fX11_setHeat p0 σ) (fX12_setHeat p0 τ) 9 1 9 9 (fun k => k = 1) (N + 1) := PC_of (X_setHeat hx hG.1.caps p0) (M_setHeat hm hG.1.caps p0) (G_setHeat hG p0)
theorem P_heat {N : Nat} {σ τ : xSt} {H : List sS} {s : sS} {tx : (Nat → Int32) × Nat} (hx : RX σ (H, s, tx)) (hm : RM τ (H, s, tx)) (hG : GH N (H, s, tx)) (hN : N ≤ 1000) : PV (fX11_heat σ) (fX12_heat τ) (N + 1) := ⟨s 2, σ, _, (H, s, tx), X_heat hx, M_heat hm, hx, hm.raised 0, hG.succ⟩
theorem P_setDecks {N : Nat} {σ τ : xSt} {H : List sS} {s : sS} {tx : (Nat → Int32) × Nat} (hx : RX σ (H, s, tx)) (hm : RM τ (H, s, tx)) (hG : GH N (H, s, tx)) (hN : N ≤ 1000) (p0 : Int32) : PC (fX11_setDecks p0 σ) (fX12_setDecks p0 τ) 9 1 9 9 (fun k => k = 1) (N + 1) := PC_of (X_setDecks hx hG.1.caps p0) (M_setDecks hm hG.1.caps p0) (G_setDecks hG p0)
theorem P_bake {N : Nat} {σ τ : xSt} {H : List sS} {s : sS} {tx : (Nat → Int32) × Nat} (hx : RX σ (H, s, tx)) (hm : RM τ (H, s, tx)) (hG : GH N (H, s, tx)) (hN : N ≤ 1000) (p0 : Int32) : PC (fX11_bake p0 σ) (fX12_bake p0 τ) 1 9 2 9 (fun k => k = 0 ∨ k = 2) (N + 1) := by
  obtain ⟨x0, x1⟩ := X_bake hx hG.1 p0
  obtain ⟨m0, m1⟩ := M_bake hm hG.1 p0
  have hc : caps s := hG.1.caps
  have h20 := hc.2.1
  by_cases g : 0 ≤ p0 ∧ p0 ≤ s 6 - 1
  · obtain ⟨k, hk, e⟩ := x_cnt hc.2.2.2.2.2.2.1 (by omega) g
    have hk : k < cD s := hk
    obtain ⟨x2, x3⟩ := x1 k hk e
    obtain ⟨m2, m3⟩ := m1 k hk e
    by_cases g3 : bakeQ s k
    · exact PC_of (x3 g3) (m3 g3) ⟨G_bake hG hk g3, fun k hk => nomatch hk⟩
    · exact PC_of (x2 g3) (m2 g3) ⟨hG.succ, fun k hk => by cases hk; decide⟩
  · exact PC_of (x0 g) (m0 g) ⟨hG.succ, fun k hk => by cases hk; decide⟩
theorem P_planned {N : Nat} {σ τ : xSt} {H : List sS} {s : sS} {tx : (Nat → Int32) × Nat} (hx : RX σ (H, s, tx)) (hm : RM τ (H, s, tx)) (hG : GH N (H, s, tx)) (hN : N ≤ 1000) (p0 : Int32) : PC (fX11_planned p0 σ) (fX12_planned p0 τ) 1 9 9 9 (fun k => k = 0) (N + 1) := PC_of (X_planned hx hG.1 p0) (M_planned hm hG.1 p0) (G_planned hG p0)
theorem P_inPlan {N : Nat} {σ τ : xSt} {H : List sS} {s : sS} {tx : (Nat → Int32) × Nat} (hx : RX σ (H, s, tx)) (hm : RM τ (H, s, tx)) (hG : GH N (H, s, tx)) (hN : N ≤ 1000) : PV (fX11_inPlan σ) (fX12_inPlan τ) (N + 1) := PV_of (X_inPlan hx hG.1) (M_inPlan hm hG.1) hG.succ
theorem P_late {N : Nat} {σ τ : xSt} {H : List sS} {s : sS} {tx : (Nat → Int32) × Nat} (hx : RX σ (H, s, tx)) (hm : RM τ (H, s, tx)) (hG : GH N (H, s, tx)) (hN : N ≤ 1000) : PV (fX11_late σ) (fX12_late τ) (N + 1) := PV_of (X_late hx hG.1) (M_late hm hG.1) hG.succ
theorem P_breads {N : Nat} {σ τ : xSt} {H : List sS} {s : sS} {tx : (Nat → Int32) × Nat} (hx : RX σ (H, s, tx)) (hm : RM τ (H, s, tx)) (hG : GH N (H, s, tx)) (hN : N ≤ 1000) (p0 p1 : Int32) : PC (fX11_breads p0 p1 σ) (fX12_breads p0 p1 τ) 1 2 9 9 (fun k => k = 0 ∨ k = 1) (N + 1) := PC_of (X_breads hx hG.1.caps p0 p1) (M_breads hm hG.1.caps p0 p1) (G_breads hG p0 p1)
theorem P_endDay {N : Nat} {σ τ : xSt} {H : List sS} {s : sS} {tx : (Nat → Int32) × Nat} (hx : RX σ (H, s, tx)) (hm : RM τ (H, s, tx)) (hG : GH N (H, s, tx)) (hN : N ≤ 1000) : PV (fX11_endDay σ) (fX12_endDay τ) (N + 1) := PV_of (X_endDay hx hG.1) (M_endDay hm hG.1) (G_endDay hG hN)
theorem P_sell {N : Nat} {σ τ : xSt} {H : List sS} {s : sS} {tx : (Nat → Int32) × Nat} (hx : RX σ (H, s, tx)) (hm : RM τ (H, s, tx)) (hG : GH N (H, s, tx)) (hN : N ≤ 1000) (p0 p1 : Int32) : PC (fX11_sell p0 p1 σ) (fX12_sell p0 p1 τ) 1 2 3 9 (fun k => k = 0 ∨ k = 1 ∨ k = 2) (N + 1) := PC_of (X_sell hx hG.1 p0 p1) (M_sell hm hG.1 p0 p1) (G_sell hG hN p0 p1)
theorem P_crumble {N : Nat} {σ τ : xSt} {H : List sS} {s : sS} {tx : (Nat → Int32) × Nat} (hx : RX σ (H, s, tx)) (hm : RM τ (H, s, tx)) (hG : GH N (H, s, tx)) (hN : N ≤ 1000) (p0 : Int32) : PC (fX11_crumble p0 σ) (fX12_crumble p0 τ) 1 9 9 9 (fun k => k = 0) (N + 1) := PC_of (X_crumble hx hG.1 p0) (M_crumble hm hG.1 p0) (G_crumble hG hN p0)
theorem P_setFlour {N : Nat} {σ τ : xSt} {H : List sS} {s : sS} {tx : (Nat → Int32) × Nat} (hx : RX σ (H, s, tx)) (hm : RM τ (H, s, tx)) (hG : GH N (H, s, tx)) (hN : N ≤ 1000) (p0 p1 p2 p3 : Int32) : PC (fX11_setFlour p0 p1 p2 p3 σ) (fX12_setFlour p0 p1 p2 p3 τ) 1 2 9 9 (fun k => k = 0 ∨ k = 1) (N + 1) := PC_of (X_setFlour hx hG.1.caps p0 p1 p2 p3) (M_setFlour hm hG.1.caps p0 p1 p2 p3) (G_setFlour hG p0 p1 p2 p3)
theorem P_mixCost {N : Nat} {σ τ : xSt} {H : List sS} {s : sS} {tx : (Nat → Int32) × Nat} (hx : RX σ (H, s, tx)) (hm : RM τ (H, s, tx)) (hG : GH N (H, s, tx)) (hN : N ≤ 1000) (p0 p1 p2 : Int32) : PC (fX11_mixCost p0 p1 p2 σ) (fX12_mixCost p0 p1 p2 τ) 9 1 9 2 (fun k => k = 1 ∨ k = 3) (N + 1) := PC_two (XM_mixCost hx hm hG.1 p0 p1 p2) hG.succ
theorem P_mixShare {N : Nat} {σ τ : xSt} {H : List sS} {s : sS} {tx : (Nat → Int32) × Nat} (hx : RX σ (H, s, tx)) (hm : RM τ (H, s, tx)) (hG : GH N (H, s, tx)) (hN : N ≤ 1000) (p0 p1 p2 p3 : Int32) : PC (fX11_mixShare p0 p1 p2 p3 σ) (fX12_mixShare p0 p1 p2 p3 τ) 1 2 9 3 (fun k => k = 0 ∨ k = 1 ∨ k = 3) (N + 1) := PC_two (XM_mixShare hx hm hG.1 p0 p1 p2 p3) hG.succ
theorem P_note {N : Nat} {σ τ : xSt} {H : List sS} {s : sS} {tx : (Nat → Int32) × Nat} (hx : RX σ (H, s, tx)) (hm : RM τ (H, s, tx)) (hG : GH N (H, s, tx)) (hN : N ≤ 1000) (p0 p1 : Int32) : PC (fX11_note p0 p1 σ) (fX12_note p0 p1 τ) 1 2 3 9 (fun k => k = 0 ∨ k = 1 ∨ k = 2) (N + 1) := PC_of (X_note hx hG.1.caps (fun x h => (hG.2.1 x h).2) p0 p1) (M_note hm hG.1.caps p0 p1) (G_note hG p0 p1)
theorem P_bestNumber {N : Nat} {σ τ : xSt} {H : List sS} {s : sS} {tx : (Nat → Int32) × Nat} (hx : RX σ (H, s, tx)) (hm : RM τ (H, s, tx)) (hG : GH N (H, s, tx)) (hN : N ≤ 1000) (p0 p1 p2 : Int32) : PC (fX11_bestNumber p0 p1 p2 σ) (fX12_bestNumber p0 p1 p2 τ) 1 2 9 3 (fun k => k = 0 ∨ k = 1 ∨ k = 3) (N + 1) := PC_of (X_bestNumber hx hG.1 p0 p1 p2) (M_bestNumber hm hG.1 p0 p1 p2) (G_bestNumber hG p0 p1 p2)
theorem P_loss {N : Nat} {σ τ : xSt} {H : List sS} {s : sS} {tx : (Nat → Int32) × Nat} (hx : RX σ (H, s, tx)) (hm : RM τ (H, s, tx)) (hG : GH N (H, s, tx)) (hN : N ≤ 1000) (p0 p1 p2 p3 : Int32) : PC (fX11_loss p0 p1 p2 p3 σ) (fX12_loss p0 p1 p2 p3 τ) 1 2 9 9 (fun k => k = 0 ∨ k = 1) (N + 1) := PC_of (X_loss hx hG.1 p0 p1 p2 p3) (M_loss hm hG.1 p0 p1 p2 p3) (G_loss hG p0 p1 p2 p3)
theorem P_addShop {N : Nat} {σ τ : xSt} {H : List sS} {s : sS} {tx : (Nat → Int32) × Nat} (hx : RX σ (H, s, tx)) (hm : RM τ (H, s, tx)) (hG : GH N (H, s, tx)) (hN : N ≤ 1000) (p0 p1 p2 p3 p4 : Int32) : PC (fX11_addShop p0 p1 p2 p3 p4 σ) (fX12_addShop p0 p1 p2 p3 p4 τ) 9 1 2 9 (fun k => k = 1 ∨ k = 2) (N + 1) := PC_of (X_addShop hx hG.1.caps (fun x h => (hG.2.1 x h).2) p0 p1 p2 p3 p4) (M_addShop hm hG.1.caps p0 p1 p2 p3 p4) (G_addShop hG p0 p1 p2 p3 p4)
theorem P_comesBack {N : Nat} {σ τ : xSt} {H : List sS} {s : sS} {tx : (Nat → Int32) × Nat} (hx : RX σ (H, s, tx)) (hm : RM τ (H, s, tx)) (hG : GH N (H, s, tx)) (hN : N ≤ 1000) (p0 : Int32) : PC (fX11_comesBack p0 σ) (fX12_comesBack p0 τ) 9 1 9 2 (fun k => k = 1 ∨ k = 3) (N + 1) := PC_two (XM_comesBack hx hm hG.1 p0) hG.succ
theorem P_shopOf {N : Nat} {σ τ : xSt} {H : List sS} {s : sS} {tx : (Nat → Int32) × Nat} (hx : RX σ (H, s, tx)) (hm : RM τ (H, s, tx)) (hG : GH N (H, s, tx)) (hN : N ≤ 1000) (p0 p1 : Int32) : PC (fX11_shopOf p0 p1 σ) (fX12_shopOf p0 p1 τ) 1 2 9 3 (fun k => k = 0 ∨ k = 1 ∨ k = 3) (N + 1) := PC_two (XM_shopOf hx hm hG.1 p0 p1) hG.succ
theorem P_wayBack {N : Nat} {σ τ : xSt} {H : List sS} {s : sS} {tx : (Nat → Int32) × Nat} (hx : RX σ (H, s, tx)) (hm : RM τ (H, s, tx)) (hG : GH N (H, s, tx)) (hN : N ≤ 1000) (p0 p1 : Int32) : PC (fX11_wayBack p0 p1 σ) (fX12_wayBack p0 p1 τ) 9 1 9 9 (fun k => k = 1) (N + 1) := PC_two (XM_wayBack hx hm hG.1 p0 p1) hG.succ
theorem P_cleaning {N : Nat} {σ τ : xSt} {H : List sS} {s : sS} {tx : (Nat → Int32) × Nat} (hx : RX σ (H, s, tx)) (hm : RM τ (H, s, tx)) (hG : GH N (H, s, tx)) (hN : N ≤ 1000) (p0 : Int32) : PC (fX11_cleaning p0 σ) (fX12_cleaning p0 τ) 9 1 9 9 (fun k => k = 1) (N + 1) := PC_two (XM_cleaning hx hm hG.1 p0) hG.succ
theorem P_rowAt {N : Nat} {σ τ : xSt} {H : List sS} {s : sS} {tx : (Nat → Int32) × Nat} (hx : RX σ (H, s, tx)) (hm : RM τ (H, s, tx)) (hG : GH N (H, s, tx)) (hN : N ≤ 1000) (p0 p1 : Int32) : PC (fX11_rowAt p0 p1 σ) (fX12_rowAt p0 p1 τ) 2 1 9 9 (fun k => k = 1 ∨ k = 0) (N + 1) := PC_two (XM_rowAt hx hm hG.1 p0 p1) hG.succ
theorem P_book {N : Nat} {σ τ : xSt} {H : List sS} {s : sS} {tx : (Nat → Int32) × Nat} (hx : RX σ (H, s, tx)) (hm : RM τ (H, s, tx)) (hG : GH N (H, s, tx)) (hN : N ≤ 1000) (p0 : Int32) : PC (fX11_book p0 σ) (fX12_book p0 τ) 9 1 9 9 (fun k => k = 1) (N + 1) := PC_of (X_book hx hG.1 p0) (M_book hm hG.1 p0) (G_book hG p0)
theorem P_type {N : Nat} {σ τ : xSt} {H : List sS} {s : sS} {tx : (Nat → Int32) × Nat} (hx : RX σ (H, s, tx)) (hm : RM τ (H, s, tx)) (hG : GH N (H, s, tx)) (hN : N ≤ 1000) (p : Int64) : PC (fX11_type p σ) (fX12_type p τ) 9 1 2 9 (fun k => k = 1 ∨ k = 2) (N + 1) := by
  obtain ⟨x0, x1⟩ := X_type hx p
  obtain ⟨m0, m1⟩ := M_type hm p
  have hG2 : GH (N + 1) (H, s, tpN p tx 8) := hG.succ
  by_cases g : okN p 8
  · by_cases g2 : tx.2 + cnN p 8 ≤ 80
    · exact PC_of ((x1 g).2 g2) ((m1 g).2 g2) ⟨hG2, fun k hk => nomatch hk⟩
    · exact PC_of ((x1 g).1 (by omega)) ((m1 g).1 (by omega)) ⟨hG.succ, fun k hk => by cases hk; decide⟩
  · exact PC_of (x0 g) (m0 g) ⟨hG.succ, fun k hk => by cases hk; decide⟩
theorem P_fault {N : Nat} {σ τ : xSt} {H : List sS} {s : sS} {tx : (Nat → Int32) × Nat} (hx : RX σ (H, s, tx)) (hm : RM τ (H, s, tx)) (hG : GH N (H, s, tx)) (hN : N ≤ 1000) : PV (fX11_fault σ) (fX12_fault τ) (N + 1) := PV_of (X_fault hx) (M_fault hm) hG.succ
theorem P_undo {N : Nat} {σ τ : xSt} {H : List sS} {s : sS} {tx : (Nat → Int32) × Nat} (hx : RX σ (H, s, tx)) (hm : RM τ (H, s, tx)) (hG : GH N (H, s, tx)) (hN : N ≤ 1000) : PC (fX11_undo σ) (fX12_undo τ) 9 9 1 9 (fun k => k = 2) (N + 1) := PC_of (X_undo hx) (M_undo hm) (G_undo hG)
theorem P_actCount {N : Nat} {σ τ : xSt} {H : List sS} {s : sS} {tx : (Nat → Int32) × Nat} (hx : RX σ (H, s, tx)) (hm : RM τ (H, s, tx)) (hG : GH N (H, s, tx)) (hN : N ≤ 1000) : PV (fX11_actCount σ) (fX12_actCount τ) (N + 1) := ⟨nI H.length, σ, _, (H, s, tx), X_actCount hx, M_actCount hm, hx, hm.raised 0, hG.succ⟩
theorem P_checksum {N : Nat} {σ τ : xSt} {H : List sS} {s : sS} {tx : (Nat → Int32) × Nat} (hx : RX σ (H, s, tx)) (hm : RM τ (H, s, tx)) (hG : GH N (H, s, tx)) (hN : N ≤ 1000) : PV (fX11_checksum σ) (fX12_checksum τ) (N + 1) := ⟨_, σ, _, (H, s, tx), X_checksum hx hG.1.caps, M_checksum hm hG.1.caps, hx, hm.raised 0, hG.succ⟩
theorem P_errors {N : Nat} {σ τ : xSt} {H : List sS} {s : sS} {tx : (Nat → Int32) × Nat} (hx : RX σ (H, s, tx)) (hm : RM τ (H, s, tx)) (hG : GH N (H, s, tx)) (hN : N ≤ 1000) : PV (fX11_errors σ) (fX12_errors τ) (N + 1) := PV_of (X_errors hx hG.1) (M_errors hm) hG.succ
