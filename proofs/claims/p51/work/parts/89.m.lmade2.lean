/-! areMade whole -/
theorem GH.up {N : Nat} {a : xA} (h : GH N a) : ∀ d, GH (N + d) a
  | 0 => h
  | d + 1 => (GH.up h d).succ
theorem GH.le {N M : Nat} {a : xA} (h : GH N a) (hm : N ≤ M) : GH M a := by
  have z := GH.up h (M - N)
  rw [Nat.add_sub_of_le hm] at z
  exact z
theorem P_recipes {R : Nat} (hR : R ≤ 4) : ∀ (d n N : Nat) (σ : xSt) (H : List sS) (s : sS) (T : Nat → Int32), cR s + d = R → d < n → N + 3 * d + 7 ≤ 1000 → RX σ (H, s, T, 0) → GH N (H, s, T, 0) → σ 52 2 = nI R → (∀ i, i < cR s → Rc1 σ s i) → (∀ k, k < 7 → s (11 + k) = 0) → ∃ σ' H' s' T', fL_areMade_c16 n (nI (cR s)) σ = some (1, σ') ∧ RX σ' (H', s', T', 0) ∧ GH (N + 3 * d + 7) (H', s', T', 0) ∧ cR s' = R ∧ (∀ i, i < R → Rc1 σ' s' i) ∧ (∀ q, (q = 52 ∨ 58 ≤ q) → σ' q = σ q) ∧ (∀ q, q ≠ 5 → q ≠ 8 → (q < 11 ∨ q = 18 ∨ 103 ≤ q) → s' q = s q) ∧ (∀ k, k < 7 → s' (11 + k) = 20000) := by
  intro d
  induction d with
  | zero =>
    intro n N σ H s T hr hn hN h hG h2 hc h0
    obtain rfl : R = cR s := by omega
    match n, hn with
    | n + 1, _ =>
      obtain ⟨σ1, ⟨H1, s1, tx1⟩, e1, h1, k1, g1, t1, o1, l1⟩ := P_deliver 7 0 8 N (H, s, T, 0) σ (by omega) (by omega) h hG (by omega) (fun k _ hk => h0 k hk)
      have t1 : tx1 = (T, 0) := t1
      subst t1
      have o1 : ∀ q, q ≠ 8 → (q < 11 + 0 ∨ 18 ≤ q) → s1 q = s q := o1
      refine ⟨σ1, H1, s1, T, ?_, h1, g1, ?_, fun i hi => ?_, fun q hq => k1 q (by omega), fun q q1 q2 q3 => o1 q q2 (by omega), fun k hk => l1 k (Nat.zero_le k) hk⟩
      · rw [fL_areMade_c16_s, h2, if_pos (nI_le (Nat.le_refl _) (by omega))]
        exact e1
      · unfold cR
        rw [o1 5 (by omega) (by omega)]
      · exact (hc i hi).cg (fun q _ _ => by rw [k1 q (by omega)]) (fun q hq => o1 q (by omega) (by omega))
  | succ d ih =>
    intro n N σ H s T hr hn hN h hG h2 hc h0
    match n, hn with
    | n + 1, hn =>
      obtain ⟨σ1, H1, s1, T1, h1, g1, c1, r1, f1, o1, e1⟩ := P_recipe (n := n) h hG (by omega) hR h2 hc
      obtain ⟨σ2, H2, s2, T2, e2, h3, g2, c2, r2, f2, o2, l2⟩ := ih n (N + 3) σ1 H1 s1 T1 (by omega) (by omega) (by omega) h1 g1 (by rw [f1 52 (Or.inl rfl)]; exact h2) (fun i hi => r1 i (by omega)) (fun k hk => by rw [o1 _ (by omega) (by omega)]; exact h0 k hk)
      refine ⟨σ2, H2, s2, T2, ?_, h3, g2.le (by omega), c2, r2, fun q hq => by rw [f2 q hq, f1 q hq], fun q q1 q2 q3 => by rw [o2 q q1 q2 q3, o1 q q1 (by omega)], l2⟩
      rw [e1, ← c1]
      exact e2
theorem P_areMade {N : Nat} {σ : xSt} {H : List sS} {s : sS} {T : Nat → Int32} (h : RX σ (H, s, T, 0)) (hG : GH N (H, s, T, 0)) (hN : N ≤ 900) (hc : cR s = 0) (h0 : ∀ k, k < 7 → s (11 + k) = 0) : ∃ σ' H' s' T' R, (1 ≤ R ∧ R ≤ 4) ∧ fL_areMade σ = some (1, σ') ∧ RX σ' (H', s', T', 0) ∧ GH (N + 19) (H', s', T', 0) ∧ cR s' = R ∧ (∀ i, i < R → Rc1 σ' s' i) ∧ σ' 52 = upd (σ 52) 2 (nI R) ∧ (∀ q, 58 ≤ q → σ' q = σ q) ∧ (∀ q, q ≠ 5 → q ≠ 8 → (q < 11 ∨ q = 18 ∨ 103 ≤ q) → s' q = s q) ∧ (∀ k, k < 7 → s' (11 + k) = 20000) := by
  obtain ⟨x, σ1, hx, e1, k1⟩ := P_next σ (n := 4) (by omega) (by omega)
  have e1 : fX12_next 4 σ = some (nI x, σ1) := e1
  obtain ⟨σ2, s2⟩ : ∃ z, z = xu σ1 52 2 (nI (x + 1)) := ⟨_, rfl⟩
  have h2 : RX σ2 (H, s, T, 0) := h.cong (fun q hq => by rw [s2, xu_ne _ _ _ (by omega), k1 q (by omega)])
  have v2 : σ2 52 = upd (σ 52) 2 (nI (x + 1)) := by rw [s2, xu_at, k1 52 (by omega)]
  obtain ⟨σ3, H3, s3, T3, e3, h3, g3, c3, r3, f3, o3, l3⟩ := P_recipes (R := x + 1) (by omega) (x + 1) 5 N σ2 H s T (by omega) (by omega) (by omega) h2 hG (by rw [v2, upd_at]) (fun i hi => by omega) h0
  refine ⟨σ3, H3, s3, T3, x + 1, by omega, ?_, h3, g3.le (by omega), c3, r3, by rw [f3 52 (Or.inl rfl), v2], fun q hq => ?_, o3, l3⟩
  · unfold fL_areMade
    rw [xc2_s e1]
    unfold xp
    rw [show 1 + nI x = nI (x + 1) by rw [nI_succ, Int32.add_comm], ← s2]
    rw [hc] at e3
    exact e3
  · rw [f3 q (Or.inr hq), s2, xu_ne _ _ _ (by omega), k1 q (by omega)]
