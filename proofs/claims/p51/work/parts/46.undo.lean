/-! ===== UNDO, QUESTIONS, DOUGHS ===== -/
theorem X_bring {σ : xSt} {P : Nat} (hP : P + 195 ≤ 1560) : ∃ σ', fX11_bringBack (nI P) σ = some σ' ∧ (∀ q, q ≠ 2 → q ≠ 3 → q ≠ 4 → q ≠ 10 → q ≠ 11 → q ≠ 12 → q ≠ 16 → q ≠ 17 → q ≠ 18 → q ≠ 19 → q ≠ 20 → q ≠ 28 → q ≠ 30 → q ≠ 31 → q ≠ 32 → q ≠ 37 → q ≠ 38 → σ' q = σ q) ∧ ∀ q k, xseg q k → σ' q k = σ 1 (P + (xoff q + k)) := by
  obtain ⟨σ1, e1, f1, v1_0, v1_1, v1_2, v1_3⟩ := X10_load (σ := σ) hP
  obtain ⟨σ2, e2, f2, v2_0, v2_1, v2_2⟩ := X8_load (σ := σ1) hP
  obtain ⟨σ3, e3, f3, v3_0, v3_1, v3_2, v3_3, v3_4⟩ := X2_load (σ := σ2) hP
  obtain ⟨σ4, e4, f4, v4_0, v4_1, v4_2, v4_3, v4_4⟩ := X5_load (σ := σ3) hP
  obtain ⟨σ5, e5, f5, v5_0⟩ := X0_load (σ := σ4) hP
  obtain ⟨σ6, e6, f6, v6_0, v6_1, v6_2⟩ := X3_load (σ := σ5) hP
  obtain ⟨σ7, e7, f7, v7_0⟩ := X4_load (σ := σ6) hP
  obtain ⟨σ8, e8, f8, v8_0⟩ := X1_load (σ := σ7) hP
  have z1 : σ1 1 = σ 1 := (f1 1 (by decide) (by decide))
  have z2 : σ2 1 = σ 1 := (f2 1 (by decide) (by decide) (by decide)).trans z1
  have z3 : σ3 1 = σ 1 := (f3 1 (by decide) (by decide) (by decide) (by decide) (by decide)).trans z2
  have z4 : σ4 1 = σ 1 := (f4 1 (by decide)).trans z3
  have z5 : σ5 1 = σ 1 := (f5 1 (by decide)).trans z4
  have z6 : σ6 1 = σ 1 := (f6 1 (by decide) (by decide) (by decide)).trans z5
  have z7 : σ7 1 = σ 1 := (f7 1 (by decide)).trans z6
  have z8 : σ8 1 = σ 1 := (f8 1 (by decide)).trans z7
  refine ⟨σ8, ?_, fun q n2 n3 n4 n10 n11 n12 n16 n17 n18 n19 n20 n28 n30 n31 n32 n37 n38 => ?_, fun q k hk => ?_⟩
  · unfold fX11_bringBack
    rw [e1, xc2_t, e2, xc2_t, e3, xc2_t, e4, xc2_t, e5, xc2_t, e6, xc2_t, e7, xc2_t, e8, xc2_t]
  · rw [f8 q n38, f7 q n37, f6 q n30 n31 n32, f5 q n28, f4 q n20, f3 q n12 n16 n17 n18 n19, f2 q n4 n10 n11, f1 q n2 n3]
  · unfold xseg at hk
    rcases hk with ⟨rfl, h1, h2⟩ | ⟨rfl, h1, h2⟩ | ⟨rfl, h1, h2⟩ | ⟨rfl, h1, h2⟩ | ⟨rfl, h1, h2⟩ | ⟨rfl, h1, h2⟩ | ⟨rfl, h1, h2⟩ | ⟨rfl, h1, h2⟩ | ⟨rfl, h1, h2⟩ | ⟨rfl, h1, h2⟩ | ⟨rfl, h1, h2⟩ | ⟨rfl, h1, h2⟩ | ⟨rfl, h1, h2⟩ | ⟨rfl, h1, h2⟩ | ⟨rfl, h1, h2⟩ | ⟨rfl, h1, h2⟩ | ⟨rfl, h1, h2⟩ | ⟨rfl, h1, h2⟩ | ⟨rfl, h1, h2⟩ | ⟨rfl, h1, h2⟩ | ⟨rfl, h1, h2⟩ | ⟨rfl, h1, h2⟩ | ⟨rfl, h1, h2⟩
    · rw [f8 3 (by decide)]; rw [f7 3 (by decide)]; rw [f6 3 (by decide) (by decide) (by decide)]; rw [f5 3 (by decide)]; rw [f4 3 (by decide)]; rw [f3 3 (by decide) (by decide) (by decide) (by decide) (by decide)]; rw [f2 3 (by decide) (by decide) (by decide)]
      rw [v1_0 k h2]
      show σ 1 (P + 0 + k) = σ 1 (P + (0 + k))
      rw [Nat.add_assoc]
    · obtain rfl : k = 1 := by omega
      rw [f8 2 (by decide)]; rw [f7 2 (by decide)]; rw [f6 2 (by decide) (by decide) (by decide)]; rw [f5 2 (by decide)]; rw [f4 2 (by decide)]; rw [f3 2 (by decide) (by decide) (by decide) (by decide) (by decide)]; rw [f2 2 (by decide) (by decide) (by decide)]
      exact v1_1
    · obtain rfl : k = 2 := by omega
      rw [f8 2 (by decide)]; rw [f7 2 (by decide)]; rw [f6 2 (by decide) (by decide) (by decide)]; rw [f5 2 (by decide)]; rw [f4 2 (by decide)]; rw [f3 2 (by decide) (by decide) (by decide) (by decide) (by decide)]; rw [f2 2 (by decide) (by decide) (by decide)]
      exact v1_2
    · obtain rfl : k = 3 := by omega
      rw [f8 2 (by decide)]; rw [f7 2 (by decide)]; rw [f6 2 (by decide) (by decide) (by decide)]; rw [f5 2 (by decide)]; rw [f4 2 (by decide)]; rw [f3 2 (by decide) (by decide) (by decide) (by decide) (by decide)]; rw [f2 2 (by decide) (by decide) (by decide)]
      exact v1_3
    · obtain rfl : k = 7 := by omega
      rw [f8 4 (by decide)]; rw [f7 4 (by decide)]; rw [f6 4 (by decide) (by decide) (by decide)]; rw [f5 4 (by decide)]; rw [f4 4 (by decide)]; rw [f3 4 (by decide) (by decide) (by decide) (by decide) (by decide)]
      exact v2_0.trans (by rw [z1]; rfl)
    · rw [f8 10 (by decide)]; rw [f7 10 (by decide)]; rw [f6 10 (by decide) (by decide) (by decide)]; rw [f5 10 (by decide)]; rw [f4 10 (by decide)]; rw [f3 10 (by decide) (by decide) (by decide) (by decide) (by decide)]
      rw [v2_1 k h2, z1]
      show σ 1 (P + 12 + k) = σ 1 (P + (12 + k))
      rw [Nat.add_assoc]
    · rw [f8 11 (by decide)]; rw [f7 11 (by decide)]; rw [f6 11 (by decide) (by decide) (by decide)]; rw [f5 11 (by decide)]; rw [f4 11 (by decide)]; rw [f3 11 (by decide) (by decide) (by decide) (by decide) (by decide)]
      rw [v2_2 k h2, z1]
      show σ 1 (P + 18 + k) = σ 1 (P + (18 + k))
      rw [Nat.add_assoc]
    · obtain rfl : k = 7 := by omega
      rw [f8 12 (by decide)]; rw [f7 12 (by decide)]; rw [f6 12 (by decide) (by decide) (by decide)]; rw [f5 12 (by decide)]; rw [f4 12 (by decide)]
      exact v3_0.trans (by rw [z2]; rfl)
    · rw [f8 16 (by decide)]; rw [f7 16 (by decide)]; rw [f6 16 (by decide) (by decide) (by decide)]; rw [f5 16 (by decide)]; rw [f4 16 (by decide)]
      rw [v3_1 k h2, z2]
      show σ 1 (P + 67 + k) = σ 1 (P + (67 + k))
      rw [Nat.add_assoc]
    · rw [f8 17 (by decide)]; rw [f7 17 (by decide)]; rw [f6 17 (by decide) (by decide) (by decide)]; rw [f5 17 (by decide)]; rw [f4 17 (by decide)]
      rw [v3_2 k h2, z2]
      show σ 1 (P + 87 + k) = σ 1 (P + (87 + k))
      rw [Nat.add_assoc]
    · rw [f8 18 (by decide)]; rw [f7 18 (by decide)]; rw [f6 18 (by decide) (by decide) (by decide)]; rw [f5 18 (by decide)]; rw [f4 18 (by decide)]
      rw [v3_3 k h2, z2]
      show σ 1 (P + 107 + k) = σ 1 (P + (107 + k))
      rw [Nat.add_assoc]
    · rw [f8 19 (by decide)]; rw [f7 19 (by decide)]; rw [f6 19 (by decide) (by decide) (by decide)]; rw [f5 19 (by decide)]; rw [f4 19 (by decide)]
      rw [v3_4 k h2, z2]
      show σ 1 (P + 127 + k) = σ 1 (P + (127 + k))
      rw [Nat.add_assoc]
    · obtain rfl : k = 0 := by omega
      rw [f8 20 (by decide)]; rw [f7 20 (by decide)]; rw [f6 20 (by decide) (by decide) (by decide)]; rw [f5 20 (by decide)]
      exact v4_0.trans (by rw [z3]; rfl)
    · obtain rfl : k = 1 := by omega
      rw [f8 20 (by decide)]; rw [f7 20 (by decide)]; rw [f6 20 (by decide) (by decide) (by decide)]; rw [f5 20 (by decide)]
      exact v4_1.trans (by rw [z3]; rfl)
    · obtain rfl : k = 2 := by omega
      rw [f8 20 (by decide)]; rw [f7 20 (by decide)]; rw [f6 20 (by decide) (by decide) (by decide)]; rw [f5 20 (by decide)]
      exact v4_2.trans (by rw [z3]; rfl)
    · obtain rfl : k = 3 := by omega
      rw [f8 20 (by decide)]; rw [f7 20 (by decide)]; rw [f6 20 (by decide) (by decide) (by decide)]; rw [f5 20 (by decide)]
      exact v4_3.trans (by rw [z3]; rfl)
    · obtain rfl : k = 4 := by omega
      rw [f8 20 (by decide)]; rw [f7 20 (by decide)]; rw [f6 20 (by decide) (by decide) (by decide)]; rw [f5 20 (by decide)]
      exact v4_4.trans (by rw [z3]; rfl)
    · rw [f8 28 (by decide)]; rw [f7 28 (by decide)]; rw [f6 28 (by decide) (by decide) (by decide)]
      rw [v5_0 k h2, z4]
      show σ 1 (P + 152 + k) = σ 1 (P + (152 + k))
      rw [Nat.add_assoc]
    · rw [f8 30 (by decide)]; rw [f7 30 (by decide)]
      rw [v6_0 k h2, z5]
      show σ 1 (P + 176 + k) = σ 1 (P + (176 + k))
      rw [Nat.add_assoc]
    · rw [f8 31 (by decide)]; rw [f7 31 (by decide)]
      rw [v6_1 k h2, z5]
      show σ 1 (P + 180 + k) = σ 1 (P + (180 + k))
      rw [Nat.add_assoc]
    · rw [f8 32 (by decide)]; rw [f7 32 (by decide)]
      rw [v6_2 k h2, z5]
      show σ 1 (P + 184 + k) = σ 1 (P + (184 + k))
      rw [Nat.add_assoc]
    · rw [f8 37 (by decide)]
      rw [v7_0 k h2, z6]
      show σ 1 (P + 188 + k) = σ 1 (P + (188 + k))
      rw [Nat.add_assoc]
    · obtain rfl : k = 5 := by omega
      skip
      exact v8_0.trans (by rw [z7]; rfl)
def sp_undo (a : xA) : xO × xA := if a.1.length = 0 then (.inr 2, a) else (.inl (nI (a.1.length - 1)), (a.1.dropLast, a.1.getLastD a.2.1, a.2.2))
theorem X_undo {σ : xSt} {H : List sS} {s : sS} {tx : (Nat → Int32) × Nat} (h : RX σ (H, s, tx)) : XR (fX11_undo σ) (sp_undo (H, s, tx)) := by
  have h0 := h
  have h : pgS σ s ∧ lvS σ s ∧ RXh σ H ∧ (σ 39 7 = 0 ∧ σ 40 7 = 0) ∧ RXt σ tx := h
  obtain ⟨hp, hl, ⟨h8, ha, o0, ho8, ho, hh⟩, hbk, ht⟩ := h
  unfold fX11_undo sp_undo
  show XR _ (if H.length = 0 then _ else _)
  by_cases hz : H.length = 0
  · rw [if_pos hz, if_pos (by rw [ha, hz]; decide)]
    unfold fX11_undo_c12
    rw [X_needState0, xct_r]
    exact ⟨σ, rfl, h0⟩
  · rw [if_neg hz, if_neg (by rw [ha]; exact nI_nle (by omega) (by omega))]
    unfold fX11_undo_c12
    rw [X_needState1, xct_l, xp_t]
    have b1 : σ 0 13 - 1 = nI (H.length - 1) := by
      rw [ha]
      have := nI_pred (H.length - 1)
      rw [show H.length - 1 + 1 = H.length by omega] at this
      exact this
    have b2 : xu σ 0 13 (nI (H.length - 1)) 0 12 = nI o0 := by rw [xu_at, upd_ne _ _ (by decide)]; exact ho
    have b3 : xu σ 0 13 (nI (H.length - 1)) 0 13 = nI (H.length - 1) := by rw [xu_at, upd_at]
    rw [b1, b2, b3, nI_add, show (8 : Int32) = nI 8 from rfl, nI_rem (by omega) (by decide) (by decide), show (195 : Int32) = nI 195 from rfl, nI_mul, Nat.mul_comm]
    obtain ⟨σ', a1, a2, a3⟩ := X_bring (σ := xu σ 0 13 (nI (H.length - 1))) (P := 195 * ((o0 + (H.length - 1)) % 8)) (by omega)
    have c0 : σ' 0 = upd (σ 0) 13 (nI (H.length - 1)) := by rw [a2 0 (by decide) (by decide) (by decide) (by decide) (by decide) (by decide) (by decide) (by decide) (by decide) (by decide) (by decide) (by decide) (by decide) (by decide) (by decide) (by decide) (by decide), xu_at]
    have c1 : σ' 1 = σ 1 := by rw [a2 1 (by decide) (by decide) (by decide) (by decide) (by decide) (by decide) (by decide) (by decide) (by decide) (by decide) (by decide) (by decide) (by decide) (by decide) (by decide) (by decide) (by decide), xu_ne _ _ _ (by decide)]
    rw [a1, xc_t]
    obtain ⟨G, x, rfl⟩ : ∃ G x, H = G ++ [x] := ⟨H.dropLast, H.getLast (by intro h9; rw [h9] at hz; exact hz rfl), (List.dropLast_concat_getLast _).symm⟩
    have hlen : (G ++ [x]).length = G.length + 1 := by simp
    have hx : (G ++ [x])[G.length]? = some x := by simp
    obtain ⟨g1, g2⟩ := hh G.length x hx
    have lk : ∀ y, lvS σ y → lvS σ' y := fun y hy => lvS.cong hy (by rw [a2 5 (by decide) (by decide) (by decide) (by decide) (by decide) (by decide) (by decide) (by decide) (by decide) (by decide) (by decide) (by decide) (by decide) (by decide) (by decide) (by decide) (by decide), xu_ne _ _ _ (by decide)]) (by rw [a2 6 (by decide) (by decide) (by decide) (by decide) (by decide) (by decide) (by decide) (by decide) (by decide) (by decide) (by decide) (by decide) (by decide) (by decide) (by decide) (by decide) (by decide), xu_ne _ _ _ (by decide)]) (by rw [a2 7 (by decide) (by decide) (by decide) (by decide) (by decide) (by decide) (by decide) (by decide) (by decide) (by decide) (by decide) (by decide) (by decide) (by decide) (by decide) (by decide) (by decide), xu_ne _ _ _ (by decide)]) (by rw [a2 8 (by decide) (by decide) (by decide) (by decide) (by decide) (by decide) (by decide) (by decide) (by decide) (by decide) (by decide) (by decide) (by decide) (by decide) (by decide) (by decide) (by decide), xu_ne _ _ _ (by decide)]) (by rw [a2 9 (by decide) (by decide) (by decide) (by decide) (by decide) (by decide) (by decide) (by decide) (by decide) (by decide) (by decide) (by decide) (by decide) (by decide) (by decide) (by decide) (by decide), xu_ne _ _ _ (by decide)]) (by rw [a2 13 (by decide) (by decide) (by decide) (by decide) (by decide) (by decide) (by decide) (by decide) (by decide) (by decide) (by decide) (by decide) (by decide) (by decide) (by decide) (by decide) (by decide), xu_ne _ _ _ (by decide)]) (by rw [a2 14 (by decide) (by decide) (by decide) (by decide) (by decide) (by decide) (by decide) (by decide) (by decide) (by decide) (by decide) (by decide) (by decide) (by decide) (by decide) (by decide) (by decide), xu_ne _ _ _ (by decide)]) (by rw [a2 39 (by decide) (by decide) (by decide) (by decide) (by decide) (by decide) (by decide) (by decide) (by decide) (by decide) (by decide) (by decide) (by decide) (by decide) (by decide) (by decide) (by decide), xu_ne _ _ _ (by decide)]) (by rw [a2 40 (by decide) (by decide) (by decide) (by decide) (by decide) (by decide) (by decide) (by decide) (by decide) (by decide) (by decide) (by decide) (by decide) (by decide) (by decide) (by decide) (by decide), xu_ne _ _ _ (by decide)]) (by rw [a2 41 (by decide) (by decide) (by decide) (by decide) (by decide) (by decide) (by decide) (by decide) (by decide) (by decide) (by decide) (by decide) (by decide) (by decide) (by decide) (by decide) (by decide), xu_ne _ _ _ (by decide)]) (by rw [a2 42 (by decide) (by decide) (by decide) (by decide) (by decide) (by decide) (by decide) (by decide) (by decide) (by decide) (by decide) (by decide) (by decide) (by decide) (by decide) (by decide) (by decide), xu_ne _ _ _ (by decide)]) (by rw [a2 43 (by decide) (by decide) (by decide) (by decide) (by decide) (by decide) (by decide) (by decide) (by decide) (by decide) (by decide) (by decide) (by decide) (by decide) (by decide) (by decide) (by decide), xu_ne _ _ _ (by decide)]) (by rw [a2 15 (by decide) (by decide) (by decide) (by decide) (by decide) (by decide) (by decide) (by decide) (by decide) (by decide) (by decide) (by decide) (by decide) (by decide) (by decide) (by decide) (by decide), xu_ne _ _ _ (by decide)]) (by rw [a2 36 (by decide) (by decide) (by decide) (by decide) (by decide) (by decide) (by decide) (by decide) (by decide) (by decide) (by decide) (by decide) (by decide) (by decide) (by decide) (by decide) (by decide), xu_ne _ _ _ (by decide)])
    refine ⟨σ', ?_, ?_⟩
    · rw [c0, upd_at]
    · show RX σ' ((G ++ [x]).dropLast, (G ++ [x]).getLastD s, tx)
      rw [List.dropLast_concat, show (G ++ [x]).getLastD s = x by simp]
      refine ⟨pgS.cong g1 (fun q k hk => ?_), lk x g2, ⟨by have : (G ++ [x]).length ≤ 8 := h8; show G.length ≤ 8; omega, ?_, o0, ho8, ?_, fun i y hi => ?_⟩, ?_, ?_⟩
      · rw [a3 q k hk, xu_ne _ _ _ (by decide), hlen]
        rfl
      · rw [c0, upd_at, hlen]; rfl
      · rw [c0, upd_ne _ _ (by decide)]; exact ho
      · have hi2 : (G ++ [x])[i]? = some y := by
          have : i < G.length := (List.getElem?_eq_some_iff.mp hi).1
          rw [List.getElem?_append_left this]; exact hi
        obtain ⟨g3, g4⟩ := hh i y hi2
        exact ⟨by rw [c1]; exact g3, lk y g4⟩
      · rw [a2 39 (by decide) (by decide) (by decide) (by decide) (by decide) (by decide) (by decide) (by decide) (by decide) (by decide) (by decide) (by decide) (by decide) (by decide) (by decide) (by decide) (by decide), a2 40 (by decide) (by decide) (by decide) (by decide) (by decide) (by decide) (by decide) (by decide) (by decide) (by decide) (by decide) (by decide) (by decide) (by decide) (by decide) (by decide) (by decide), xu_ne _ _ _ (by decide), xu_ne _ _ _ (by decide)]; exact hbk
      · unfold RXt; rw [a2 49 (by decide) (by decide) (by decide) (by decide) (by decide) (by decide) (by decide) (by decide) (by decide) (by decide) (by decide) (by decide) (by decide) (by decide) (by decide) (by decide) (by decide), a2 50 (by decide) (by decide) (by decide) (by decide) (by decide) (by decide) (by decide) (by decide) (by decide) (by decide) (by decide) (by decide) (by decide) (by decide) (by decide) (by decide) (by decide), xu_ne _ _ _ (by decide), xu_ne _ _ _ (by decide)]; exact ht
theorem X_now {σ : xSt} {a : xA} (h : RX σ a) : fX11_now σ = some (a.2.1 0, σ) := by
  unfold fX11_now
  rw [X_at_tick h]
theorem X_doughCount {σ : xSt} {a : xA} (h : RX σ a) : fX11_doughCount σ = some (a.2.1 6, σ) := by
  unfold fX11_doughCount
  rw [X_at_ndough h]