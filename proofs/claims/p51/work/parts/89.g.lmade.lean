/-! the areMade loops: the shares of a dough -/
theorem P_shares {N : Nat} {a : xA} (hG : GH N a) {r G : Nat} {pv : Nat → Nat} (hr : r < cR a.2.1) (hg : 1 ≤ G ∧ G ≤ 100000) (hs : ∀ j, j < 8 → a.2.1 (55 + (8 * r + j)) = nI (pv j)) (hv : ∀ j, pv j < 100) (hS : 0 < sN pv 8) {rd : Nat → Int32} (hrd : ∀ j, j < 8 → rd j = nI (pv j)) {k16 : Int32 → xSt → Option (Int32 × xSt)} : ∀ (d k n : Nat) (σ : xSt), k + d = 8 → d < n → RX σ a → ∃ σ', RX σ' a ∧ kL σ σ' ∧ fL_areMade_c395 k16 n (nI r) (nI (sN pv 8)) (nI G) (nI (G * sN pv k / sN pv 8)) (nI k) rd σ = k16 (nI (r + 1)) σ' := by
  have b8 := sN_b hv 8
  intro d
  induction d with
  | zero =>
    intro k n σ hk hn h
    obtain rfl : k = 8 := by omega
    match n, hn with
    | n + 1, _ =>
      refine ⟨σ, h, kL.rf, ?_⟩
      rw [fL_areMade_c395_s, if_pos (by decide), Nat.mul_div_cancel G hS, if_pos rfl]
      unfold xl
      rw [← nI_succ]
  | succ d ih =>
    intro k n σ hk hn h
    match n, hn with
    | n + 1, hn =>
      have hp : ¬ pu a.2.1 r 8 ≤ 0 := by
        rw [pu_sN 8 hs]
        show ¬ nI (sN pv 8) ≤ nI 0
        rw [nI_leF hS (by omega)]
        exact fun z => z
      obtain ⟨σ1, h1, k1, e1⟩ := P_amount h hG hr hg (k := k) (by omega) hp
      obtain ⟨σ2, h2, k2, e2⟩ := ih (k + 1) n σ1 (by omega) (by omega) h1
      refine ⟨σ2, h2, k1.tr k2, ?_⟩
      have hm : sN pv (k + 1) ≤ sN pv 8 := sN_mono (k + 1) 8 (by omega)
      have hx : G * sN pv (k + 1) / sN pv 8 ≤ G := by
        have z1 : G * sN pv (k + 1) / sN pv 8 ≤ G * sN pv 8 / sN pv 8 := Nat.div_le_div_right (Nat.mul_le_mul_left G hm)
        rw [Nat.mul_div_cancel G hS] at z1
        exact z1
      have hy : G * sN pv k / sN pv 8 ≤ G * sN pv (k + 1) / sN pv 8 := Nat.div_le_div_right (Nat.mul_le_mul_left G (sN_mono k (k + 1) (by omega)))
      have hnear := amt_near (G := G) (U := sN pv k) (p := pv k) hS
      have hvk := hv k
      have hl := lg_near (d := G * sN pv (k + 1) / sN pv 8 - G * sN pv k / sN pv 8) (S := sN pv 8) (G := G) (p := pv k) (Nat.le_trans (Nat.sub_le _ _) (Nat.le_trans hx hg.2)) (by omega) hg.2 (by omega) hnear.1 hnear.2
      rw [fL_areMade_c395_s, if_neg (show ¬ (8 : Int32) ≤ nI k from nI_ge (b := 8) (by omega) (by decide)), e1, amt_q hs hv (by omega) hg.2, xrs_n (by omega) (by omega), hrd k (by omega), if_pos hl]
      unfold xl
      have e3 : nI (G * sN pv k / sN pv 8) + nI (G * sN pv (k + 1) / sN pv 8 - G * sN pv k / sN pv 8) = nI (G * sN pv (k + 1) / sN pv 8) := by
        rw [show nI (G * sN pv k / sN pv 8) + nI (G * sN pv (k + 1) / sN pv 8 - G * sN pv k / sN pv 8) = nI (G * sN pv k / sN pv 8 + (G * sN pv (k + 1) / sN pv 8 - G * sN pv k / sN pv 8)) from (Int32.ofNat_add _ _).symm, Nat.add_sub_of_le hy]
      rw [e3, ← nI_succ]
      exact e2
/-! the deliveries -/
theorem P_deliver : ∀ (d i n N : Nat) (a : xA) (σ : xSt), i + d = 7 → d < n → RX σ a → GH N a → N + d ≤ 1000 → (∀ k, i ≤ k → k < 7 → a.2.1 (11 + k) = 0) → ∃ σ' a', fL_areMade_c473 n (nI i) σ = some (1, σ') ∧ RX σ' a' ∧ kL σ σ' ∧ GH (N + d) a' ∧ a'.2.2 = a.2.2 ∧ (∀ q, q ≠ 8 → (q < 11 + i ∨ 18 ≤ q) → a'.2.1 q = a.2.1 q) ∧ (∀ k, i ≤ k → k < 7 → a'.2.1 (11 + k) = 20000) := by
  intro d
  induction d with
  | zero =>
    intro i n N a σ hi hn h hG hN h0
    obtain rfl : i = 7 := by omega
    match n, hn with
    | n + 1, _ =>
      obtain ⟨σ1, e1, h1, k1⟩ := P_isKept h hG.inv
      refine ⟨σ1, a, ?_, h1, k1, hG, rfl, fun _ _ _ => rfl, fun k _ _ => by omega⟩
      rw [fL_areMade_c473_s, if_pos (by decide), xc2_s e1]
      exact if_pos (Or.inr rfl)
  | succ d ih =>
    intro i n N a σ hi hn h hG hN h0
    match n, hn with
    | n + 1, hn =>
      obtain ⟨σ1, h1, g1, k1, e1⟩ := P_receive h hG (by omega) (k := i) (by omega) (h0 i (Nat.le_refl i) (by omega))
      obtain ⟨σ2, a2, e2, h2, k2, g2, t2, o2, l2⟩ := ih (i + 1) n (N + 1) _ σ1 (by omega) (by omega) h1 g1 (by omega) (fun k hk hk2 => by
        show upd (upd a.2.1 (11 + i) 20000) 8 (a.2.1 8 + 20000) (11 + k) = 0
        rw [upd_ne _ _ (by omega), upd_ne _ _ (by omega)]
        exact h0 k (by omega) hk2)
      refine ⟨σ2, a2, ?_, h2, k1.tr k2, by rw [show N + (d + 1) = N + 1 + d by omega]; exact g2, t2, fun q hq hq2 => ?_, fun k hk hk2 => ?_⟩
      · rw [fL_areMade_c473_s, if_neg (show ¬ (7 : Int32) ≤ nI i from nI_ge (b := 7) (by omega) (by decide)), e1, if_pos rfl]
        unfold xl
        rw [← nI_succ]
        exact e2
      · rw [o2 q hq (by omega)]
        show upd (upd a.2.1 (11 + i) 20000) 8 (a.2.1 8 + 20000) q = a.2.1 q
        rw [upd_ne _ _ hq, upd_ne _ _ (by omega)]
      · by_cases c : k = i
        · subst c
          rw [o2 (11 + k) (by omega) (by omega)]
          show upd (upd a.2.1 (11 + k) 20000) 8 (a.2.1 8 + 20000) (11 + k) = 20000
          rw [upd_ne _ _ (by omega), upd_at]
        · exact l2 k (by omega) hk2
