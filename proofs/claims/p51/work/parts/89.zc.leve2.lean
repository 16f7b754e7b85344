/-! isEvening: its calls -/
def ES (s s' : sS) : Prop := ∀ q, q ≠ 9 → q ≠ 10 → q ≠ 18 → (q < 223 ∨ 247 ≤ q) → s' q = s q
theorem ES.rf {s : sS} : ES s s := fun _ _ _ _ _ => rfl
theorem ES.tr {s t u : sS} (h : ES s t) (h2 : ES t u) : ES s u := fun q a b c d => (h2 q a b c d).trans (h q a b c d)
theorem ES.lw {R : Nat} {σ τ : xSt} {s s' : sS} (h : ES s s') (w : LW R σ s) (k : kX σ τ) : LW R τ s' := w.act k (fun q hq => h q (by omega) (by omega) (by omega) (by omega))
theorem P_checksum {N : Nat} {σ : xSt} {a : xA} (h : RX σ a) (hI : Inv N a.2.1) : ∀ {β : Type} (K : Int64 → xSt → Option β), xcm (fX11_checksum σ) σ K = K (ck3 a.2.1 (4 * cR a.2.1)) σ := fun K => xcm_same (X_checksum (H := a.1) (s := a.2.1) (tx := a.2.2) h hI.caps) K
theorem P_breads {N : Nat} {σ : xSt} {H : List sS} {s : sS} {tx : (Nat → Int32) × Nat} (h : RX σ (H, s, tx)) (hI : Inv N s) {r a : Nat} (hr : r < cR s) (ha : a ≤ 3) : ∃ σ', RX σ' (H, s, tx) ∧ kL σ σ' ∧ ∀ {β : Type} (K : Int32 → xSt → Option β), xco (fX11_breads (nI r) (nI a) σ) σ K = K (s (223 + (4 * r + a))) σ' := by
  have hcR := hI.caps.1
  refine P_ask (X_breads h hI.caps _ _) ?_
  unfold sp_breads
  have h1 : 0 ≤ nI r ∧ nI r ≤ (H, s, tx).2.1 5 - 1 := r_in hI.caps hr
  rw [if_pos h1, if_pos ⟨nI_pos' (by omega), nI_le (b := 3) ha (by decide)⟩, nI_clamp (show r < 2 ^ 31 by omega), nI_clamp (show a < 2 ^ 31 by omega)]
theorem P_sell {N : Nat} {σ : xSt} {H : List sS} {s : sS} {tx : (Nat → Int32) × Nat} (h : RX σ (H, s, tx)) (hG : GH N (H, s, tx)) (hN : N ≤ 1000) {r p : Nat} (hr : r < cR s) (hp : 1 ≤ p ∧ p ≤ 99) (hb : ¬ brs s r 0 < nI p) : ∃ σ' s' v, RX σ' (kp H s, s', tx) ∧ GH (N + 1) (kp H s, s', tx) ∧ ES s s' ∧ kL σ σ' ∧ 0 ≤ v ∧ ∀ {β : Type} (K : Int32 → xSt → Option β), xco (fX11_sell (nI r) (nI p) σ) σ K = K v σ' := by
  have hI : Inv N s := hG.inv
  have hcR := hI.caps.1
  have h1 : 0 ≤ nI r ∧ nI r ≤ (H, s, tx).2.1 5 - 1 := r_in hI.caps hr
  have h2 : (1 : Int32) ≤ nI p ∧ nI p ≤ 99 := ⟨nI_le (a := 1) hp.1 (by omega), nI_le (b := 99) hp.2 (by decide)⟩
  have e : sp_sell (nI r) (nI p) (H, s, tx) = (.inl (slN r 4 (s, -1, nI p)).2.1, (kp H s, seS s r (nI p), tx)) := by
    unfold sp_sell
    rw [if_pos h1, if_pos h2, nI_clamp (show r < 2 ^ 31 by omega)]
    exact if_neg hb
  obtain ⟨σ', g1, g2, g3, g4⟩ := P_op (X_sell h hI (nI r) (nI p)) (G_sell hG hN (nI r) (nI p)).1 e
  refine ⟨σ', _, _, g1, g2, ?_, g3, ?_, g4⟩
  · intro q n9 n10 n18 hq
    unfold seS
    rw [upd_ne _ _ n9]
    exact slN_out r 4 (s, -1, nI p) q (by omega)
  · refine slN_first r 4 s (nI p) (Nat.le_refl _) (nI_lt (a := 0) (by omega) (by omega)) (fun k hk => ?_) ?_
    · have := (hI.bread (4 * r + k) (by omega)).1
      exact (fa_le _ _).mpr this
    · by_cases c : ∃ k, k < 4 ∧ ¬ s (223 + (4 * r + k)) = 0
      · exact c
      · exfalso
        have z : brs s r 0 = 0 := s32_nil 4 (fun k hk => by
          by_cases c2 : s (223 + (4 * r + (0 + k))) = 0
          · exact c2
          · exact absurd ⟨0 + k, by omega, c2⟩ c)
        rw [z] at hb
        exact hb (nI_lt (a := 0) (by omega) (by omega))
theorem P_crumble {N : Nat} {σ : xSt} {H : List sS} {s : sS} {tx : (Nat → Int32) × Nat} (h : RX σ (H, s, tx)) (hG : GH N (H, s, tx)) (hN : N ≤ 1000) {r : Nat} (hr : r < cR s) : ∃ σ' s' v, RX σ' (kp H s, s', tx) ∧ GH (N + 1) (kp H s, s', tx) ∧ ES s s' ∧ kL σ σ' ∧ 0 ≤ v ∧ ∀ {β : Type} (K : Int32 → xSt → Option β), xco (fX11_crumble (nI r) σ) σ K = K v σ' := by
  have hI : Inv N s := hG.inv
  have hcR := hI.caps.1
  have h1 : 0 ≤ nI r ∧ nI r ≤ (H, s, tx).2.1 5 - 1 := r_in hI.caps hr
  have e : sp_crumble (nI r) (H, s, tx) = (.inl (crG s r), (kp H s, crS s r, tx)) := by
    unfold sp_crumble
    rw [if_pos h1, nI_clamp (show r < 2 ^ 31 by omega)]
  obtain ⟨σ', g1, g2, g3, g4⟩ := P_op (X_crumble h hI (nI r)) (G_crumble hG hN (nI r)).1 e
  refine ⟨σ', _, _, g1, g2, ?_, g3, crG_nn hI hN hr, g4⟩
  intro q n9 n10 n18 hq
  unfold crS
  rw [upd_ne _ _ n18, upd_ne _ _ (by omega), upd_ne _ _ (by omega), upd_ne _ _ (by omega)]
theorem P_endDay {N : Nat} {σ : xSt} {H : List sS} {s : sS} {tx : (Nat → Int32) × Nat} (h : RX σ (H, s, tx)) (hG : GH N (H, s, tx)) (hN : N ≤ 1000) : ∃ σ' s' v, RX σ' (kp H s, s', tx) ∧ GH (N + 1) (kp H s, s', tx) ∧ ES s s' ∧ kL σ σ' ∧ ¬ v < 0 ∧ (∀ r, r < cR s → s' (223 + (4 * r + 0)) = 0) ∧ ∀ {β : Type} (K : Int32 → xSt → Option β), xcm (fX11_endDay σ) σ K = K v σ' := by
  have hI : Inv N s := hG.inv
  have hcR := hI.caps.1
  obtain ⟨σ', g1, g3, g4⟩ := xcm_XR (σ := σ) (X_endDay h hI)
  have b := edA_b hI hN (cR s) (Nat.le_refl _)
  refine ⟨σ', edN s (cR s), _, g1, G_endDay hG hN, fun q n9 n10 n18 hq => edN_o s _ hcR q n10 hq, g3, fun h9 => ?_, fun r hr => edN_z s (cR s) hr, g4⟩
  have h9 : edA s (cR s) < 0 := h9
  rw [fa_lt] at h9
  have z : (0 : Int32).toInt = 0 := rfl
  omega
theorem P_undo {σ : xSt} {H : List sS} {s s' : sS} {tx : (Nat → Int32) × Nat} {N : Nat} (h : RX σ (kp H s, s', tx)) (hG : GH N (kp H s, s', tx)) : ∃ σ' H' v, RX σ' (H', s, tx) ∧ GH (N + 1) (H', s, tx) ∧ kL σ σ' ∧ ¬ v < 0 ∧ ∀ {β : Type} (K : Int32 → xSt → Option β), xco (fX11_undo σ) σ K = K v σ' := by
  have h8 : (kp H s).length ≤ 8 := h.2.2.1.1
  obtain ⟨G, e⟩ : ∃ G, kp H s = G ++ [s] := by
    unfold kp
    split
    · exact ⟨H, rfl⟩
    · exact ⟨H.tail, rfl⟩
  rw [e] at h hG h8
  have hl : ¬ (G ++ [s]).length = 0 := by
    rw [List.length_append]
    exact Nat.succ_ne_zero _
  have sp : sp_undo (G ++ [s], s', tx) = (.inl (nI ((G ++ [s]).length - 1)), (G, s, tx)) := by
    show (if (G ++ [s]).length = 0 then ((.inr 2 : xO), ((G ++ [s], s', tx) : xA)) else ((.inl (nI ((G ++ [s]).length - 1)) : xO), (((G ++ [s]).dropLast, (G ++ [s]).getLastD s', tx) : xA))) = _
    rw [if_neg hl, List.dropLast_concat, List.getLastD_concat]
  obtain ⟨σ', g1, g2, g3, g4⟩ := P_op (X_undo h) (G_undo hG).1 sp
  exact ⟨σ', G, _, g1, g2, g3, nI_nlt (b := 0) (Nat.zero_le _) (by omega), g4⟩
