/-! ===== EVERY CALL: the state stays good ===== -/
theorem cle.refl (s : sS) : cle s s := ⟨Nat.le_refl _, Nat.le_refl _, Nat.le_refl _, fun _ _ => Nat.le_refl _⟩
theorem cle.trans {a b c : sS} (h : cle a b) (g : cle b c) : cle a c := ⟨Nat.le_trans h.1 g.1, Nat.le_trans h.2.1 g.2.1, Nat.le_trans h.2.2.1 g.2.2.1, fun r hr => Nat.le_trans (h.2.2.2 r hr) (g.2.2.2 r hr)⟩
theorem cle_eq {s s' : sS} (e5 : s' 5 = s 5) (e6 : s' 6 = s 6) (e7 : s' 7 = s 7) (eN : ∀ r, r < 6 → s' (259 + r) = s (259 + r)) : cle s s' := by
  unfold cle cR cD cS cN
  rw [e5, e6, e7]
  exact ⟨Nat.le_refl _, Nat.le_refl _, Nat.le_refl _, fun r hr => by rw [eN r hr]; exact Nat.le_refl _⟩
theorem cle_u {x s : sS} (h : cle x s) {j : Nat} (v : Int32) (hj : j ≠ 5 ∧ j ≠ 6 ∧ j ≠ 7 ∧ (j < 259 ∨ 265 ≤ j)) : cle x (upd s j v) := by
  unfold cle
  rw [cR_ne _ _ hj.1, cD_ne _ _ hj.2.1, cS_ne _ _ hj.2.2.1]
  exact ⟨h.1, h.2.1, h.2.2.1, fun r hr => by rw [cN_ne _ _ _ (by omega)]; exact h.2.2.2 r hr⟩
def PW : List sS → Prop
  | [] => True
  | x :: t => (∀ y, y ∈ t → cle x y) ∧ PW t
theorem PW_snoc : ∀ (H : List sS) (s : sS), PW H → (∀ x, x ∈ H → cle x s) → PW (H ++ [s])
  | [], _, _, _ => ⟨fun y hy => absurd hy List.not_mem_nil, trivial⟩
  | x :: t, s, h, hs => ⟨fun y hy => by
      rcases List.mem_append.mp hy with hy | hy
      · exact h.1 y hy
      · rw [List.mem_singleton.mp hy]; exact hs x List.mem_cons_self, PW_snoc t s h.2 (fun y hy => hs y (List.mem_cons_of_mem _ hy))⟩
theorem PW_init : ∀ (H : List sS) (s : sS), PW (H ++ [s]) → PW H ∧ ∀ x, x ∈ H → cle x s
  | [], _, _ => ⟨trivial, fun x hx => absurd hx List.not_mem_nil⟩
  | x :: t, s, h => by
    have h : (∀ y, y ∈ t ++ [s] → cle x y) ∧ PW (t ++ [s]) := h
    obtain ⟨i1, i2⟩ := PW_init t s h.2
    refine ⟨⟨fun y hy => h.1 y (List.mem_append.mpr (Or.inl hy)), i1⟩, fun y hy => ?_⟩
    rcases List.mem_cons.mp hy with e | hy
    · rw [e]; exact h.1 s (List.mem_append.mpr (Or.inr (List.mem_singleton.mpr rfl)))
    · exact i2 y hy
theorem PW_tail : ∀ (H : List sS), PW H → PW H.tail
  | [], h => h
  | _ :: _, h => h.2
def GH (N : Nat) (a : xA) : Prop := Inv N a.2.1 ∧ (∀ x, x ∈ a.1 → Inv N x ∧ cle x a.2.1) ∧ PW a.1
theorem GH.succ {N : Nat} {a : xA} (h : GH N a) : GH (N + 1) a := ⟨h.1.mono (Nat.le_succ N), fun x hx => ⟨(h.2.1 x hx).1.mono (Nat.le_succ N), (h.2.1 x hx).2⟩, h.2.2⟩
theorem kp_mem {H : List sS} {s x : sS} (h : x ∈ kp H s) : x ∈ H ∨ x = s := by
  unfold kp at h
  by_cases c : H.length < 8
  · rw [if_pos c] at h
    rcases List.mem_append.mp h with h | h
    · exact Or.inl h
    · exact Or.inr (List.mem_singleton.mp h)
  · rw [if_neg c] at h
    rcases List.mem_append.mp h with h | h
    · exact Or.inl (List.mem_of_mem_tail h)
    · exact Or.inr (List.mem_singleton.mp h)
theorem GH.keep {N : Nat} {H : List sS} {s : sS} {tx : (Nat → Int32) × Nat} (h : GH N (H, s, tx)) {s' : sS} {tx' : (Nat → Int32) × Nat} (hI : Inv (N + 1) s') (hc : cle s s') : GH (N + 1) (kp H s, s', tx') := by
  refine ⟨hI, fun x hx => ?_, ?_⟩
  · rcases kp_mem hx with g | g
    · exact ⟨(h.2.1 x g).1.mono (Nat.le_succ N), (h.2.1 x g).2.trans hc⟩
    · rw [g]; exact ⟨h.1.mono (Nat.le_succ N), hc⟩
  · show PW (kp H s)
    unfold kp
    by_cases c : H.length < 8
    · rw [if_pos c]; exact PW_snoc H s h.2.2 (fun x hx => (h.2.1 x hx).2)
    · rw [if_neg c]; exact PW_snoc _ s (PW_tail H h.2.2) (fun x hx => (h.2.1 x (List.mem_of_mem_tail hx)).2)
theorem G_setWarmth {N : Nat} {H : List sS} {s : sS} {tx : (Nat → Int32) × Nat} (hG : GH N (H, s, tx)) (p0 : Int32) : GH (N + 1) (sp_setWarmth p0 (H, s, tx)).2 ∧ ∀ k, (sp_setWarmth p0 (H, s, tx)).1 = .inr k → k = 1 := by
  unfold sp_setWarmth
  by_cases g : 0 ≤ p0 ∧ p0 ≤ 5
  · rw [if_pos g]; exact ⟨hG.keep ((Inv_setWarmth hG.1 g).mono (Nat.le_succ N)) (cle_u (cle.refl s) p0 (by decide)), fun k hk => nomatch hk⟩
  · rw [if_neg g]; exact ⟨hG.succ, fun k hk => by cases hk; decide⟩
theorem G_setHeat {N : Nat} {H : List sS} {s : sS} {tx : (Nat → Int32) × Nat} (hG : GH N (H, s, tx)) (p0 : Int32) : GH (N + 1) (sp_setHeat p0 (H, s, tx)).2 ∧ ∀ k, (sp_setHeat p0 (H, s, tx)).1 = .inr k → k = 1 := by
  unfold sp_setHeat
  by_cases g : 20 ≤ p0 ∧ p0 ≤ 320
  · rw [if_pos g]; exact ⟨hG.keep ((Inv_setHeat hG.1 g).mono (Nat.le_succ N)) (cle_u (cle.refl s) p0 (by decide)), fun k hk => nomatch hk⟩
  · rw [if_neg g]; exact ⟨hG.succ, fun k hk => by cases hk; decide⟩
theorem G_setDecks {N : Nat} {H : List sS} {s : sS} {tx : (Nat → Int32) × Nat} (hG : GH N (H, s, tx)) (p0 : Int32) : GH (N + 1) (sp_setDecks p0 (H, s, tx)).2 ∧ ∀ k, (sp_setDecks p0 (H, s, tx)).1 = .inr k → k = 1 := by
  unfold sp_setDecks
  by_cases g : 1 ≤ p0 ∧ p0 ≤ 4
  · rw [if_pos g]; exact ⟨hG.keep ((Inv_setDecks hG.1 g).mono (Nat.le_succ N)) (cle_u (cle.refl s) p0 (by decide)), fun k hk => nomatch hk⟩
  · rw [if_neg g]; exact ⟨hG.succ, fun k hk => by cases hk; decide⟩
theorem G_store {N : Nat} {H : List sS} {s : sS} {tx : (Nat → Int32) × Nat} (hG : GH N (H, s, tx)) (p0 : Int32) : GH (N + 1) (sp_store p0 (H, s, tx)).2 ∧ ∀ k, (sp_store p0 (H, s, tx)).1 = .inr k → k = 0 := by
  unfold sp_store
  by_cases g : 0 ≤ p0 ∧ p0 ≤ 7
  · rw [if_pos g]; exact ⟨hG.succ, fun k hk => nomatch hk⟩
  · rw [if_neg g]; exact ⟨hG.succ, fun k hk => by cases hk; decide⟩
theorem G_receive {N : Nat} {H : List sS} {s : sS} {tx : (Nat → Int32) × Nat} (hG : GH N (H, s, tx)) (hN : N ≤ 1000) (p0 p1 : Int32) : GH (N + 1) (sp_receive p0 p1 (H, s, tx)).2 ∧ ∀ k, (sp_receive p0 p1 (H, s, tx)).1 = .inr k → k = 0 ∨ k = 1 ∨ k = 2 := by
  unfold sp_receive
  by_cases g : 0 ≤ p0 ∧ p0 ≤ 7
  · obtain ⟨k, k0, k7, rfl⟩ := x_rng (a := 0) (b := 7) rfl (by decide) (by decide) (by decide) g
    rw [if_pos g]
    by_cases g2 : nI k = 7
    · rw [if_pos g2]; exact ⟨hG.succ, fun k hk => by cases hk; decide⟩
    · rw [if_neg g2]
      by_cases g3 : 1 ≤ p1 ∧ p1 ≤ 200000
      · rw [if_pos g3, nI_clamp (by omega)]
        by_cases g4 : 1000000 < (H, s, tx).2.1 (11 + k) + p1
        · rw [if_pos g4]; exact ⟨hG.succ, fun k hk => by cases hk; decide⟩
        · rw [if_neg g4]
          exact ⟨hG.keep (Inv_receive hG.1 hN (by omega) g3) (cle_u (cle_u (cle.refl s) _ (by omega)) _ (by decide)), fun k hk => nomatch hk⟩
      · rw [if_neg g3]; exact ⟨hG.succ, fun k hk => by cases hk; decide⟩
  · rw [if_neg g]; exact ⟨hG.succ, fun k hk => by cases hk; decide⟩
theorem G_addRecipe {N : Nat} {H : List sS} {s : sS} {tx : (Nat → Int32) × Nat} (hG : GH N (H, s, tx)) (p0 p1 p2 p3 p4 : Int32) : GH (N + 1) (sp_addRecipe p0 p1 p2 p3 p4 (H, s, tx)).2 ∧ ∀ k, (sp_addRecipe p0 p1 p2 p3 p4 (H, s, tx)).1 = .inr k → k = 1 ∨ k = 2 := by
  have hc : caps s := hG.1.caps
  have e5 : s 5 = nI (cR s) := hc.2.2.2.2.2.1
  have h6 := hc.1
  have bad : GH (N + 1) ((.inr 1, (H, s, tx)) : xO × xA).2 ∧ ∀ k, ((.inr 1, (H, s, tx)) : xO × xA).1 = .inr k → k = 1 ∨ k = 2 := ⟨hG.succ, fun k hk => by cases hk; decide⟩
  unfold sp_addRecipe
  by_cases g0 : 50 ≤ p0 ∧ p0 ≤ 2000
  · rw [if_pos g0]
    by_cases g1 : 1 ≤ p1 ∧ p1 ≤ 200
    · rw [if_pos g1]
      by_cases g2 : p1 ≤ p2 ∧ p2 ≤ 200
      · rw [if_pos g2]
        by_cases g3 : 100 ≤ p3 ∧ p3 ≤ 300
        · rw [if_pos g3]
          by_cases g4 : 0 ≤ p4 ∧ p4 ≤ 15
          · rw [if_pos g4]
            by_cases g5 : 6 ≤ (H, s, tx).2.1 5
            · rw [if_pos g5]; exact ⟨hG.succ, fun k hk => by cases hk; decide⟩
            · rw [if_neg g5]
              have hlt : cR s < 6 := by
                by_cases g6 : cR s < 6
                · exact g6
                · exfalso
                  have g5 : ¬ 6 ≤ s 5 := g5
                  rw [e5] at g5
                  exact g5 (nI_le (a := 6) (b := cR s) (by omega) (by omega))
              have base : cle s (upd s 5 (nI (cR s + 1))) := ⟨by rw [cR_at s (by omega)]; omega, by rw [cD_ne _ _ (by decide)]; exact Nat.le_refl _, by rw [cS_ne _ _ (by decide)]; exact Nat.le_refl _, fun r hr => by rw [cN_ne _ _ _ (by omega)]; exact Nat.le_refl _⟩
              have b6 : cle s (upd (upd (upd (upd (upd (upd (upd s 5 (nI (cR s + 1))) (19 + cR s) p0) (25 + cR s) p1) (31 + cR s) p2) (37 + cR s) p3) (43 + cR s) p4) (49 + cR s) 20) := cle_u (cle_u (cle_u (cle_u (cle_u (cle_u base _ (by omega)) _ (by omega)) _ (by omega)) _ (by omega)) _ (by omega)) _ (by omega)
              exact ⟨hG.keep ((Inv_addRecipe hG.1 hlt g0 g1 g2 g3 g4).mono (Nat.le_succ N)) b6, fun k hk => nomatch hk⟩
          · rw [if_neg g4]; exact bad
        · rw [if_neg g3]; exact bad
      · rw [if_neg g2]; exact bad
    · rw [if_neg g1]; exact bad
  · rw [if_neg g0]; exact bad
theorem G_addShop {N : Nat} {H : List sS} {s : sS} {tx : (Nat → Int32) × Nat} (hG : GH N (H, s, tx)) (p0 p1 p2 p3 p4 : Int32) : GH (N + 1) (sp_addShop p0 p1 p2 p3 p4 (H, s, tx)).2 ∧ ∀ k, (sp_addShop p0 p1 p2 p3 p4 (H, s, tx)).1 = .inr k → k = 1 ∨ k = 2 := by
  have hc : caps s := hG.1.caps
  have e7 : s 7 = nI (cS s) := hc.2.2.2.2.2.2.2.1
  have h7 := hc.2.2.1
  have bad : GH (N + 1) ((.inr 1, (H, s, tx)) : xO × xA).2 ∧ ∀ k, ((.inr 1, (H, s, tx)) : xO × xA).1 = .inr k → k = 1 ∨ k = 2 := ⟨hG.succ, fun k hk => by cases hk; decide⟩
  unfold sp_addShop
  by_cases g0 : 0 ≤ p0 ∧ p0 ≤ 20
  · rw [if_pos g0]
    by_cases g1 : 0 ≤ p1 ∧ p1 ≤ 20
    · rw [if_pos g1]
      by_cases g2 : 0 ≤ p2 ∧ p2 ≤ 600
      · rw [if_pos g2]
        by_cases g3 : p2 ≤ p3 ∧ p3 ≤ 600
        · rw [if_pos g3]
          by_cases g4 : 0 ≤ p4 ∧ p4 ≤ 30
          · rw [if_pos g4]
            by_cases g5 : 7 ≤ (H, s, tx).2.1 7
            · rw [if_pos g5]; exact ⟨hG.succ, fun k hk => by cases hk; decide⟩
            · rw [if_neg g5]
              have hlt : cS s < 7 := by
                by_cases g6 : cS s < 7
                · exact g6
                · exfalso
                  have g5 : ¬ 7 ≤ s 7 := g5
                  rw [e7] at g5
                  exact g5 (nI_le (a := 7) (b := cS s) (by omega) (by omega))
              have base : cle s (upd s 7 (nI (cS s + 1))) := ⟨by rw [cR_ne _ _ (by decide)]; exact Nat.le_refl _, by rw [cD_ne _ _ (by decide)]; exact Nat.le_refl _, by rw [cS_at s (by omega)]; omega, fun r hr => by rw [cN_ne _ _ _ (by omega)]; exact Nat.le_refl _⟩
              exact ⟨hG.keep ((Inv_addShop hG.1 hlt g0 g1 g2 g3 g4).mono (Nat.le_succ N)) (cle_u (cle_u (cle_u (cle_u (cle_u base _ (by omega)) _ (by omega)) _ (by omega)) _ (by omega)) _ (by omega)), fun k hk => nomatch hk⟩
          · rw [if_neg g4]; exact bad
        · rw [if_neg g3]; exact bad
      · rw [if_neg g2]; exact bad
    · rw [if_neg g1]; exact bad
  · rw [if_neg g0]; exact bad
theorem G_setWait {N : Nat} {H : List sS} {s : sS} {tx : (Nat → Int32) × Nat} (hG : GH N (H, s, tx)) (p0 p1 : Int32) : GH (N + 1) (sp_setWait p0 p1 (H, s, tx)).2 ∧ ∀ k, (sp_setWait p0 p1 (H, s, tx)).1 = .inr k → k = 0 ∨ k = 1 := by
  have hc : caps s := hG.1.caps
  have h6 := hc.1
  unfold sp_setWait
  by_cases g : 0 ≤ p0 ∧ p0 ≤ (H, s, tx).2.1 5 - 1
  · obtain ⟨r, hr, rfl⟩ := x_cnt hc.2.2.2.2.2.1 (by omega) g
    rw [if_pos g]
    by_cases g2 : 0 ≤ p1 ∧ p1 ≤ 99
    · rw [if_pos g2, nI_clamp (by omega)]; exact ⟨hG.keep ((Inv_setWait hG.1 hr g2).mono (Nat.le_succ N)) (cle_u (cle.refl s) _ (by omega)), fun k hk => nomatch hk⟩
    · rw [if_neg g2]; exact ⟨hG.succ, fun k hk => by cases hk; decide⟩
  · rw [if_neg g]; exact ⟨hG.succ, fun k hk => by cases hk; decide⟩
theorem G_setPart {N : Nat} {H : List sS} {s : sS} {tx : (Nat → Int32) × Nat} (hG : GH N (H, s, tx)) (p0 p1 p2 : Int32) : GH (N + 1) (sp_setPart p0 p1 p2 (H, s, tx)).2 ∧ ∀ k, (sp_setPart p0 p1 p2 (H, s, tx)).1 = .inr k → k = 0 ∨ k = 1 := by
  have hc : caps s := hG.1.caps
  have h6 := hc.1
  unfold sp_setPart
  by_cases g : 0 ≤ p0 ∧ p0 ≤ (H, s, tx).2.1 5 - 1
  · obtain ⟨r, hr, rfl⟩ := x_cnt hc.2.2.2.2.2.1 (by omega) g
    rw [if_pos g]
    by_cases g2 : 0 ≤ p1 ∧ p1 ≤ 7
    · obtain ⟨m, m0, m7, rfl⟩ := x_rng (a := 0) (b := 7) rfl (by decide) (by decide) (by decide) g2
      rw [if_pos g2]
      by_cases g3 : 0 ≤ p2 ∧ p2 ≤ 9999
      · have hb : bt p2 0 9999 := ⟨(fa_le _ _).mp g3.1, (fa_le _ _).mp g3.2⟩
        rw [if_pos g3, nI_clamp (by omega), nI_clamp (by omega)]; exact ⟨hG.keep ((Inv_setPart hG.1 (by omega) hb).mono (Nat.le_succ N)) (cle_u (cle.refl s) _ (by omega)), fun k hk => nomatch hk⟩
      · rw [if_neg g3]; exact ⟨hG.succ, fun k hk => by cases hk; decide⟩
    · rw [if_neg g2]; exact ⟨hG.succ, fun k hk => by cases hk; decide⟩
  · rw [if_neg g]; exact ⟨hG.succ, fun k hk => by cases hk; decide⟩
theorem rpN_cle {s : sS} {r : Nat} (hr : r < 6) (P : Nat → Int32) : ∀ m, m ≤ 8 → cle s (rpN s r P m)
  | 0, _ => cle.refl s
  | m + 1, hm => cle_u (rpN_cle hr P m (by omega)) _ (by omega)
theorem G_readParts {N : Nat} {H : List sS} {s : sS} {tx : (Nat → Int32) × Nat} (hG : GH N (H, s, tx)) (p0 : Int32) : GH (N + 1) (sp_readParts p0 (H, s, tx)).2 ∧ ∀ k, (sp_readParts p0 (H, s, tx)).1 = .inr k → k = 0 ∨ k = 1 := by
  have hc : caps s := hG.1.caps
  have h6 := hc.1
  unfold sp_readParts
  by_cases g : 0 ≤ p0 ∧ p0 ≤ (H, s, tx).2.1 5 - 1
  · obtain ⟨r, hr, rfl⟩ := x_cnt hc.2.2.2.2.2.1 (by omega) g
    have hr : r < cR s := hr
    rw [if_pos g]
    by_cases g2 : (rd (H, s, tx).2.2.1 (H, s, tx).2.2.2).1 = -1
    · rw [if_pos g2, nI_clamp (by omega)]
      exact ⟨hG.keep ((Inv_rpN hG.1 (by omega) (fun k => rd_b _ _ k) 8 (Nat.le_refl 8)).mono (Nat.le_succ N)) (rpN_cle (by omega) _ 8 (Nat.le_refl 8)), fun k hk => nomatch hk⟩
    · rw [if_neg g2]; exact ⟨hG.succ, fun k hk => by cases hk; decide⟩
  · rw [if_neg g]; exact ⟨hG.succ, fun k hk => by cases hk; decide⟩
theorem G_amount {N : Nat} {H : List sS} {s : sS} {tx : (Nat → Int32) × Nat} (hG : GH N (H, s, tx)) (p0 p1 p2 : Int32) : GH (N + 1) (sp_amount p0 p1 p2 (H, s, tx)).2 ∧ ∀ k, (sp_amount p0 p1 p2 (H, s, tx)).1 = .inr k → k = 0 ∨ k = 1 ∨ k = 2 := by
  unfold sp_amount
  by_cases g : 0 ≤ p0 ∧ p0 ≤ (H, s, tx).2.1 5 - 1
  · rw [if_pos g]
    by_cases g2 : 0 ≤ p2 ∧ p2 ≤ 7
    · rw [if_pos g2]
      by_cases g3 : 1 ≤ p1 ∧ p1 ≤ 100000
      · rw [if_pos g3]
        by_cases g4 : pu (H, s, tx).2.1 p0.toNatClampNeg 8 ≤ 0
        · rw [if_pos g4]; exact ⟨hG.succ, fun k hk => by cases hk; decide⟩
        · rw [if_neg g4]; exact ⟨hG.succ, fun k hk => nomatch hk⟩
      · rw [if_neg g3]; exact ⟨hG.succ, fun k hk => by cases hk; decide⟩
    · rw [if_neg g2]; exact ⟨hG.succ, fun k hk => by cases hk; decide⟩
  · rw [if_neg g]; exact ⟨hG.succ, fun k hk => by cases hk; decide⟩
theorem G_shape {N : Nat} {H : List sS} {s : sS} {tx : (Nat → Int32) × Nat} (hG : GH N (H, s, tx)) (p0 : Int32) : GH (N + 1) (sp_shape p0 (H, s, tx)).2 ∧ ∀ k, (sp_shape p0 (H, s, tx)).1 = .inr k → k = 0 ∨ k = 2 := by
  have hc : caps s := hG.1.caps
  have h20 := hc.2.1
  unfold sp_shape
  by_cases g : 0 ≤ p0 ∧ p0 ≤ (H, s, tx).2.1 6 - 1
  · obtain ⟨k, hk, rfl⟩ := x_cnt hc.2.2.2.2.2.2.1 (by omega) g
    have hk : k < cD s := hk
    rw [if_pos g, nI_clamp (by omega)]
    by_cases g2 : (H, s, tx).2.1 (163 + k) = 0 ∧ ((H, s, tx).2.1 (25 + drc (H, s, tx).2.1 k) ≤ (H, s, tx).2.1 (143 + k) ∧ (H, s, tx).2.1 (143 + k) ≤ (H, s, tx).2.1 (31 + drc (H, s, tx).2.1 k))
    · rw [if_pos g2]; exact ⟨hG.keep ((Inv_shape hG.1 hk g2.1).mono (Nat.le_succ N)) (cle_u (cle_u (cle.refl s) _ (by omega)) _ (by omega)), fun k hk => nomatch hk⟩
    · rw [if_neg g2]; exact ⟨hG.succ, fun k hk => by cases hk; decide⟩
  · rw [if_neg g]; exact ⟨hG.succ, fun k hk => by cases hk; decide⟩
theorem G_throwAway {N : Nat} {H : List sS} {s : sS} {tx : (Nat → Int32) × Nat} (hG : GH N (H, s, tx)) (hN : N ≤ 1000) (p0 : Int32) : GH (N + 1) (sp_throwAway p0 (H, s, tx)).2 ∧ ∀ k, (sp_throwAway p0 (H, s, tx)).1 = .inr k → k = 0 ∨ k = 2 := by
  have hc : caps s := hG.1.caps
  have h20 := hc.2.1
  unfold sp_throwAway
  by_cases g : 0 ≤ p0 ∧ p0 ≤ (H, s, tx).2.1 6 - 1
  · obtain ⟨k, hk, rfl⟩ := x_cnt hc.2.2.2.2.2.2.1 (by omega) g
    have hk : k < cD s := hk
    rw [if_pos g, nI_clamp (by omega)]
    by_cases g2 : (H, s, tx).2.1 (163 + k) = 0 ∨ (H, s, tx).2.1 (163 + k) = 1
    · rw [if_pos g2]; exact ⟨hG.keep ((Inv_throw hG.1 hN hk g2).mono (Nat.le_succ N)) (cle_u (cle_u (cle.refl s) _ (by omega)) _ (by decide)), fun k hk => nomatch hk⟩
    · rw [if_neg g2]; exact ⟨hG.succ, fun k hk => by cases hk; decide⟩
  · rw [if_neg g]; exact ⟨hG.succ, fun k hk => by cases hk; decide⟩
theorem G_doughAt {N : Nat} {H : List sS} {s : sS} {tx : (Nat → Int32) × Nat} (hG : GH N (H, s, tx)) (p0 p1 : Int32) : GH (N + 1) (sp_doughAt p0 p1 (H, s, tx)).2 ∧ ∀ k, (sp_doughAt p0 p1 (H, s, tx)).1 = .inr k → k = 0 ∨ k = 1 := by
  unfold sp_doughAt
  by_cases g : 0 ≤ p0 ∧ p0 ≤ (H, s, tx).2.1 6 - 1
  · rw [if_pos g]
    by_cases g2 : 0 ≤ p1 ∧ p1 ≤ 6
    · rw [if_pos g2]; exact ⟨hG.succ, fun k hk => nomatch hk⟩
    · rw [if_neg g2]; exact ⟨hG.succ, fun k hk => by cases hk; decide⟩
  · rw [if_neg g]; exact ⟨hG.succ, fun k hk => by cases hk; decide⟩
theorem G_planned {N : Nat} {H : List sS} {s : sS} {tx : (Nat → Int32) × Nat} (hG : GH N (H, s, tx)) (p0 : Int32) : GH (N + 1) (sp_planned p0 (H, s, tx)).2 ∧ ∀ k, (sp_planned p0 (H, s, tx)).1 = .inr k → k = 0 := by
  unfold sp_planned
  by_cases g : 0 ≤ p0 ∧ p0 ≤ (H, s, tx).2.1 6 - 1
  · rw [if_pos g]; exact ⟨hG.succ, fun k hk => nomatch hk⟩
  · rw [if_neg g]; exact ⟨hG.succ, fun k hk => by cases hk; decide⟩
theorem G_breads {N : Nat} {H : List sS} {s : sS} {tx : (Nat → Int32) × Nat} (hG : GH N (H, s, tx)) (p0 p1 : Int32) : GH (N + 1) (sp_breads p0 p1 (H, s, tx)).2 ∧ ∀ k, (sp_breads p0 p1 (H, s, tx)).1 = .inr k → k = 0 ∨ k = 1 := by
  unfold sp_breads
  by_cases g : 0 ≤ p0 ∧ p0 ≤ (H, s, tx).2.1 5 - 1
  · rw [if_pos g]
    by_cases g2 : 0 ≤ p1 ∧ p1 ≤ 3
    · rw [if_pos g2]; exact ⟨hG.succ, fun k hk => nomatch hk⟩
    · rw [if_neg g2]; exact ⟨hG.succ, fun k hk => by cases hk; decide⟩
  · rw [if_neg g]; exact ⟨hG.succ, fun k hk => by cases hk; decide⟩
theorem G_sell {N : Nat} {H : List sS} {s : sS} {tx : (Nat → Int32) × Nat} (hG : GH N (H, s, tx)) (hN : N ≤ 1000) (p0 p1 : Int32) : GH (N + 1) (sp_sell p0 p1 (H, s, tx)).2 ∧ ∀ k, (sp_sell p0 p1 (H, s, tx)).1 = .inr k → k = 0 ∨ k = 1 ∨ k = 2 := by
  have hc : caps s := hG.1.caps
  have h6 := hc.1
  unfold sp_sell
  by_cases g : 0 ≤ p0 ∧ p0 ≤ (H, s, tx).2.1 5 - 1
  · obtain ⟨r, hr, rfl⟩ := x_cnt hc.2.2.2.2.2.1 (by omega) g
    have hr : r < cR s := hr
    rw [if_pos g, nI_clamp (by omega)]
    by_cases g2 : 1 ≤ p1 ∧ p1 ≤ 99
    · rw [if_pos g2]
      by_cases g3 : brs (H, s, tx).2.1 r 0 < p1
      · rw [if_pos g3]; exact ⟨hG.succ, fun k hk => by cases hk; decide⟩
      · rw [if_neg g3]
        have so : ∀ j, (j < 223 ∨ 247 ≤ j) → (slN r 4 (s, -1, p1)).1 j = s j := fun j hj => slN_out r 4 (s, -1, p1) j (by omega)
        exact ⟨hG.keep ((Inv_sell hG.1 hN hr g2 g3).mono (Nat.le_succ N)) (cle_u (cle_eq (so 5 (by decide)) (so 6 (by decide)) (so 7 (by decide)) (fun q hq => so _ (by omega))) _ (by decide)), fun k hk => nomatch hk⟩
    · rw [if_neg g2]; exact ⟨hG.succ, fun k hk => by cases hk; decide⟩
  · rw [if_neg g]; exact ⟨hG.succ, fun k hk => by cases hk; decide⟩
theorem G_crumble {N : Nat} {H : List sS} {s : sS} {tx : (Nat → Int32) × Nat} (hG : GH N (H, s, tx)) (hN : N ≤ 1000) (p0 : Int32) : GH (N + 1) (sp_crumble p0 (H, s, tx)).2 ∧ ∀ k, (sp_crumble p0 (H, s, tx)).1 = .inr k → k = 0 := by
  have hc : caps s := hG.1.caps
  have h6 := hc.1
  unfold sp_crumble
  by_cases g : 0 ≤ p0 ∧ p0 ≤ (H, s, tx).2.1 5 - 1
  · obtain ⟨r, hr, rfl⟩ := x_cnt hc.2.2.2.2.2.1 (by omega) g
    have hr : r < cR s := hr
    rw [if_pos g, nI_clamp (by omega)]
    exact ⟨hG.keep ((Inv_crumble hG.1 hN hr).mono (Nat.le_succ N)) (cle_u (cle_u (cle_u (cle_u (cle.refl s) _ (by omega)) _ (by omega)) _ (by omega)) _ (by decide)), fun k hk => nomatch hk⟩
  · rw [if_neg g]; exact ⟨hG.succ, fun k hk => by cases hk; decide⟩
theorem G_setFlour {N : Nat} {H : List sS} {s : sS} {tx : (Nat → Int32) × Nat} (hG : GH N (H, s, tx)) (p0 p1 p2 p3 : Int32) : GH (N + 1) (sp_setFlour p0 p1 p2 p3 (H, s, tx)).2 ∧ ∀ k, (sp_setFlour p0 p1 p2 p3 (H, s, tx)).1 = .inr k → k = 0 ∨ k = 1 := by
  unfold sp_setFlour
  by_cases g : 0 ≤ p0 ∧ p0 ≤ 3
  · obtain ⟨f, f0, f3, rfl⟩ := x_rng (a := 0) (b := 3) rfl (by decide) (by decide) (by decide) g
    rw [if_pos g, nI_clamp (by omega)]
    by_cases g1 : 0 ≤ p1 ∧ p1 ≤ 200
    · rw [if_pos g1]
      by_cases g2 : 0 ≤ p2 ∧ p2 ≤ 999
      · rw [if_pos g2]
        by_cases g3 : 0 ≤ p3 ∧ p3 ≤ 100
        · rw [if_pos g3]; exact ⟨hG.keep ((Inv_setFlour hG.1 (by omega) g1 g2 g3).mono (Nat.le_succ N)) (cle_u (cle_u (cle_u (cle.refl s) _ (by omega)) _ (by omega)) _ (by omega)), fun k hk => nomatch hk⟩
        · rw [if_neg g3]; exact ⟨hG.succ, fun k hk => by cases hk; decide⟩
      · rw [if_neg g2]; exact ⟨hG.succ, fun k hk => by cases hk; decide⟩
    · rw [if_neg g1]; exact ⟨hG.succ, fun k hk => by cases hk; decide⟩
  · rw [if_neg g]; exact ⟨hG.succ, fun k hk => by cases hk; decide⟩
theorem G_note {N : Nat} {H : List sS} {s : sS} {tx : (Nat → Int32) × Nat} (hG : GH N (H, s, tx)) (p0 p1 : Int32) : GH (N + 1) (sp_note p0 p1 (H, s, tx)).2 ∧ ∀ k, (sp_note p0 p1 (H, s, tx)).1 = .inr k → k = 0 ∨ k = 1 ∨ k = 2 := by
  have hc : caps s := hG.1.caps
  have h6 := hc.1
  unfold sp_note
  by_cases g : 0 ≤ p0 ∧ p0 ≤ (H, s, tx).2.1 5 - 1
  · obtain ⟨r, hr, rfl⟩ := x_cnt hc.2.2.2.2.2.1 (by omega) g
    have hr : r < cR s := hr
    have h60 := hc.2.2.2.1 r (by omega)
    have eN := hc.2.2.2.2.2.2.2.2 r (by omega)
    rw [if_pos g, nI_clamp (by omega)]
    by_cases g2 : 0 ≤ p1 ∧ p1 ≤ 99
    · rw [if_pos g2]
      by_cases g3 : 60 ≤ (H, s, tx).2.1 (259 + r)
      · rw [if_pos g3]; exact ⟨hG.succ, fun k hk => by cases hk; decide⟩
      · rw [if_neg g3]
        have hlt : cN s r < 60 := by
          by_cases g6 : cN s r < 60
          · exact g6
          · exfalso
            have g3 : ¬ 60 ≤ s (259 + r) := g3
            rw [eN] at g3
            exact g3 (nI_le (a := 60) (b := cN s r) (by omega) (by omega))
        have c1 : cle s (upd s (265 + (60 * r + cN s r)) p1) := cle_u (cle.refl s) _ (by omega)
        have c2 : cle s (upd (upd s (265 + (60 * r + cN s r)) p1) (259 + r) (nI (cN s r + 1))) := by
          refine ⟨by rw [cR_ne _ _ (by omega)]; exact c1.1, by rw [cD_ne _ _ (by omega)]; exact c1.2.1, by rw [cS_ne _ _ (by omega)]; exact c1.2.2.1, fun q hq => ?_⟩
          by_cases e : q = r
          · rw [e, cN_at _ (by omega)]; omega
          · rw [cN_ne _ _ _ (by omega)]; exact c1.2.2.2 q hq
        exact ⟨hG.keep ((Inv_note hG.1 (by omega) hlt g2).mono (Nat.le_succ N)) c2, fun k hk => nomatch hk⟩
    · rw [if_neg g2]; exact ⟨hG.succ, fun k hk => by cases hk; decide⟩
  · rw [if_neg g]; exact ⟨hG.succ, fun k hk => by cases hk; decide⟩
theorem G_bestNumber {N : Nat} {H : List sS} {s : sS} {tx : (Nat → Int32) × Nat} (hG : GH N (H, s, tx)) (p0 p1 p2 : Int32) : GH (N + 1) (sp_bestNumber p0 p1 p2 (H, s, tx)).2 ∧ ∀ k, (sp_bestNumber p0 p1 p2 (H, s, tx)).1 = .inr k → k = 0 ∨ k = 1 ∨ k = 3 := by
  unfold sp_bestNumber
  by_cases g : 0 ≤ p0 ∧ p0 ≤ (H, s, tx).2.1 5 - 1
  · rw [if_pos g]
    by_cases g1 : 0 ≤ p1 ∧ p1 ≤ 99
    · rw [if_pos g1]
      by_cases g2 : 0 ≤ p2 ∧ p2 ≤ 99
      · rw [if_pos g2]
        by_cases g3 : (H, s, tx).2.1 (259 + p0.toNatClampNeg) ≤ 0
        · rw [if_pos g3]; exact ⟨hG.succ, fun k hk => by cases hk; decide⟩
        · rw [if_neg g3]; exact ⟨hG.succ, fun k hk => nomatch hk⟩
      · rw [if_neg g2]; exact ⟨hG.succ, fun k hk => by cases hk; decide⟩
    · rw [if_neg g1]; exact ⟨hG.succ, fun k hk => by cases hk; decide⟩
  · rw [if_neg g]; exact ⟨hG.succ, fun k hk => by cases hk; decide⟩
theorem G_loss {N : Nat} {H : List sS} {s : sS} {tx : (Nat → Int32) × Nat} (hG : GH N (H, s, tx)) (p0 p1 p2 p3 : Int32) : GH (N + 1) (sp_loss p0 p1 p2 p3 (H, s, tx)).2 ∧ ∀ k, (sp_loss p0 p1 p2 p3 (H, s, tx)).1 = .inr k → k = 0 ∨ k = 1 := by
  unfold sp_loss
  by_cases g : 0 ≤ p0 ∧ p0 ≤ (H, s, tx).2.1 5 - 1
  · rw [if_pos g]
    by_cases g1 : 0 ≤ p1 ∧ p1 ≤ 99
    · rw [if_pos g1]
      by_cases g2 : 0 ≤ p2 ∧ p2 ≤ 99
      · rw [if_pos g2]
        by_cases g3 : 0 ≤ p3 ∧ p3 ≤ 99
        · rw [if_pos g3]; exact ⟨hG.succ, fun k hk => nomatch hk⟩
        · rw [if_neg g3]; exact ⟨hG.succ, fun k hk => by cases hk; decide⟩
      · rw [if_neg g2]; exact ⟨hG.succ, fun k hk => by cases hk; decide⟩
    · rw [if_neg g1]; exact ⟨hG.succ, fun k hk => by cases hk; decide⟩
  · rw [if_neg g]; exact ⟨hG.succ, fun k hk => by cases hk; decide⟩
theorem G_book {N : Nat} {H : List sS} {s : sS} {tx : (Nat → Int32) × Nat} (hG : GH N (H, s, tx)) (p0 : Int32) : GH (N + 1) (sp_book p0 (H, s, tx)).2 ∧ ∀ k, (sp_book p0 (H, s, tx)).1 = .inr k → k = 1 := by
  unfold sp_book
  by_cases g : 0 ≤ p0 ∧ p0 ≤ 6
  · rw [if_pos g]; exact ⟨hG.succ, fun k hk => nomatch hk⟩
  · rw [if_neg g]; exact ⟨hG.succ, fun k hk => by cases hk; decide⟩
theorem G_undo {N : Nat} {H : List sS} {s : sS} {tx : (Nat → Int32) × Nat} (hG : GH N (H, s, tx)) : GH (N + 1) (sp_undo (H, s, tx)).2 ∧ ∀ k, (sp_undo (H, s, tx)).1 = .inr k → k = 2 := by
  unfold sp_undo
  by_cases hz : (H, s, tx).1.length = 0
  · rw [if_pos hz]; exact ⟨hG.succ, fun k hk => by cases hk; decide⟩
  · rw [if_neg hz]
    have hz : ¬ H.length = 0 := hz
    obtain ⟨G, x, rfl⟩ : ∃ G x, H = G ++ [x] := ⟨H.dropLast, H.getLast (by intro h9; rw [h9] at hz; exact hz rfl), (List.dropLast_concat_getLast _).symm⟩
    refine ⟨?_, fun k hk => nomatch hk⟩
    show GH (N + 1) ((G ++ [x]).dropLast, (G ++ [x]).getLastD s, tx)
    rw [List.dropLast_concat, show (G ++ [x]).getLastD s = x by simp]
    obtain ⟨p1, p2⟩ := PW_init G x hG.2.2
    refine ⟨(hG.2.1 x (List.mem_append.mpr (Or.inr (List.mem_singleton.mpr rfl)))).1.mono (Nat.le_succ N), fun y hy => ⟨(hG.2.1 y (List.mem_append.mpr (Or.inl hy))).1.mono (Nat.le_succ N), p2 y hy⟩, p1⟩
theorem edN_o (s : sS) : ∀ k, k ≤ 6 → ∀ j, j ≠ 10 → (j < 223 ∨ 247 ≤ j) → edN s k j = s j
  | 0, _, _, _, _ => rfl
  | k + 1, hk, j, h1, h2 => by
    show edS (edN s k) k j = s j
    unfold edS
    rw [upd_ne _ _ (by omega), upd_ne _ _ (by omega), upd_ne _ _ (by omega), upd_ne _ _ (by omega), upd_ne _ _ (by omega)]
    exact edN_o s k (by omega) j h1 h2
theorem G_endDay {N : Nat} {H : List sS} {s : sS} {tx : (Nat → Int32) × Nat} (hG : GH N (H, s, tx)) (hN : N ≤ 1000) : GH (N + 1) (kp H s, edN s (cR s), tx) := by
  have h6 : cR s ≤ 6 := hG.1.caps.1
  exact hG.keep ((Inv_edN hG.1 hN (cR s) (Nat.le_refl _)).mono (Nat.le_succ N)) (cle_eq (edN_o s _ h6 5 (by decide) (by decide)) (edN_o s _ h6 6 (by decide) (by decide)) (edN_o s _ h6 7 (by decide) (by decide)) (fun r hr => edN_o s _ h6 _ (by omega) (by omega)))
theorem G_mix {N : Nat} {H : List sS} {s : sS} {tx : (Nat → Int32) × Nat} (hG : GH N (H, s, tx)) (hN : N ≤ 1000) {r : Nat} (hr : r < cR s) {pc : Int32} (hp : 1 ≤ pc ∧ pc ≤ 40) (hq : mixQ s r pc) : GH (N + 1) (kp H s, mixS s r pc, tx) := by
  have h20 : cD s < 20 := hq.1
  have b0 : cle s (mixN s r (pc * s (19 + r)) 8) := cle_eq (mixN_ge s r _ 8 5 (by decide)) (mixN_ge s r _ 8 6 (by decide)) (mixN_ge s r _ 8 7 (by decide)) (fun q hq => mixN_ge s r _ 8 _ (by omega))
  have b1 : cle s (upd (mixN s r (pc * s (19 + r)) 8) 6 (nI (cD s + 1))) := ⟨by rw [cR_ne _ _ (by decide)]; exact b0.1, by rw [cD_at _ (by omega)]; omega, by rw [cS_ne _ _ (by decide)]; exact b0.2.2.1, fun q hq => by rw [cN_ne _ _ _ (by omega)]; exact b0.2.2.2 q hq⟩
  exact hG.keep ((Inv_mix hG.1 hN hr hp hq).mono (Nat.le_succ N)) (cle_u (cle_u (cle_u (cle_u (cle_u (cle_u b1 _ (by omega)) _ (by omega)) _ (by omega)) _ (by omega)) _ (by omega)) _ (by omega))
theorem G_bake {N : Nat} {H : List sS} {s : sS} {tx : (Nat → Int32) × Nat} (hG : GH N (H, s, tx)) {k : Nat} (hk : k < cD s) (hq : bakeQ s k) : GH (N + 1) (kp H s, upd (upd s (163 + k) 2) (203 + k) (s 0), tx) := by
  have h20 : cD s ≤ 20 := hG.1.caps.2.1
  exact hG.keep ((Inv_bake hG.1 hk (by rcases hq.1 with h | h; exact Or.inr h.1; exact Or.inl h.1)).mono (Nat.le_succ N)) (cle_u (cle_u (cle.refl s) _ (by omega)) _ (by omega))
theorem G_pass {N : Nat} {H : List sS} {s : sS} {tx : (Nat → Int32) × Nat} (hG : GH N (H, s, tx)) (hN : N ≤ 1000) {n : Nat} (hn : n ≤ 200) (hp : ¬ 100000 < s 0 + nI n) : GH (N + 1) (kp H s, tkN s n, tx) := by
  have h20 : cD s ≤ 20 := hG.1.caps.2.1
  have o : bt (s 0) 0 100000 := hG.1.oven.1
  unfold bt at o
  have t : (s 0 + nI n).toInt = (s 0).toInt + n := by rw [i32_add (by rw [nI_toInt (by omega)]; omega) (by rw [nI_toInt (by omega)]; omega), nI_toInt (by omega)]
  have hp : (s 0).toInt + n ≤ 100000 := by
    rw [fa_lt, t] at hp
    have hp : ¬ (100000 : Int) < (s 0).toInt + n := hp
    omega
  exact hG.keep ((Inv_tkN hG.1 hN n hp).1.mono (Nat.le_succ N)) (cle_eq (tkN_at s h20 (j := 5) (by decide) (by decide) (by decide) (by decide) n).1 (tkN_at s h20 (j := 6) (by decide) (by decide) (by decide) (by decide) n).1 (tkN_at s h20 (j := 7) (by decide) (by decide) (by decide) (by decide) n).1 (fun r hr => (tkN_at s h20 (j := 259 + r) (by omega) (by omega) (by omega) (by omega) n).1))
