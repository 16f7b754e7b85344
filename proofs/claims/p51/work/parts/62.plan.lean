/-! ===== THE PLAN ===== -/
theorem i32_div {a b : Int32} (ha : 0 ≤ a.toInt) (hb : 0 < b.toInt) : (a / b).toInt = a.toInt / b.toInt := by
  have h1 := a.toInt_lt
  have h2 : a.toInt / b.toInt ≤ a.toInt := Int.ediv_le_self _ ha
  have h3 : 0 ≤ a.toInt / b.toInt := Int.ediv_nonneg ha (by omega)
  rw [Int32.toInt_div, Int.tdiv_eq_ediv_of_nonneg ha]
  exact Int.bmod_eq_of_le (by omega) (by omega)
def plF (s : sS) (k : Nat) : Int := if s (163 + k) = 0 ∧ 0 ≤ (s (31 + drc s k)).toInt - (s (143 + k)).toInt ∧ 0 < (gn s).toInt then (s 0).toInt + ((if (s (25 + drc s k)).toInt - (s (143 + k)).toInt < 0 then 0 else (s (25 + drc s k)).toInt - (s (143 + k)).toInt) + (gn s).toInt - 1) / (gn s).toInt else (s 0).toInt
def plL (s : sS) (k : Nat) : Int := if s (163 + k) = 1 then (s (183 + k)).toInt + (s (49 + drc s k)).toInt else if s (163 + k) = 0 then (if 0 ≤ (s (31 + drc s k)).toInt - (s (143 + k)).toInt then (if 0 < (gn s).toInt then (s 0).toInt + ((s (31 + drc s k)).toInt - (s (143 + k)).toInt) / (gn s).toInt else if (s (25 + drc s k)).toInt - (s (143 + k)).toInt ≤ 0 then 1000000 else -1) else -1) else -1
theorem gn_b (s : sS) : 0 ≤ (gn s).toInt ∧ (gn s).toInt ≤ 6 := xPts_b _
theorem pl_b {N : Nat} {s : sS} (h : Inv N s) {k : Nat} (hk : k < cD s) : (s 0).toInt ≤ plF s k ∧ plF s k ≤ (s 0).toInt + 300 ∧ -1 ≤ plL s k ∧ (plL s k ≤ (s 0).toInt + 200 ∨ (plL s k = 1000000 ∧ plF s k = (s 0).toInt)) := by
  obtain ⟨a1, a2, a3, ⟨a4, a5⟩, a6, a7⟩ := h.dough k hk
  obtain ⟨b1, b2, b3, b4, b5, b6⟩ := h.rec.1 _ (drc_lt h.caps hk)
  have g := gn_b s
  have o := h.oven.1
  unfold bt at *
  have b1' : drc s k = (s (103 + k)).toNatClampNeg := rfl
  rw [← b1'] at *
  unfold plF plL
  have dv : ∀ x : Int, 0 ≤ x → x ≤ 300 → 0 < (gn s).toInt → 0 ≤ x / (gn s).toInt ∧ x / (gn s).toInt ≤ x := fun x h1 h2 h3 => ⟨Int.ediv_nonneg h1 (by omega), Int.ediv_le_self _ h1⟩
  by_cases c1 : s (163 + k) = 1
  · have c0 : ¬ s (163 + k) = 0 := by rw [c1]; decide
    rw [if_pos c1, if_neg (fun h9 => c0 h9.1)]
    omega
  · rw [if_neg c1]
    by_cases c0 : s (163 + k) = 0
    · rw [if_pos c0]
      by_cases c2 : 0 ≤ (s (31 + drc s k)).toInt - (s (143 + k)).toInt
      · rw [if_pos c2]
        by_cases c3 : 0 < (gn s).toInt
        · rw [if_pos c3, if_pos ⟨c0, c2, c3⟩]
          have d1 := dv _ c2 (by omega) c3
          have d2 := dv ((if (s (25 + drc s k)).toInt - (s (143 + k)).toInt < 0 then 0 else (s (25 + drc s k)).toInt - (s (143 + k)).toInt) + (gn s).toInt - 1) (by split <;> omega) (by split <;> omega) c3
          have d3 : (if (s (25 + drc s k)).toInt - (s (143 + k)).toInt < 0 then 0 else (s (25 + drc s k)).toInt - (s (143 + k)).toInt) ≤ 200 := by split <;> omega
          generalize (if (s (25 + drc s k)).toInt - (s (143 + k)).toInt < 0 then 0 else (s (25 + drc s k)).toInt - (s (143 + k)).toInt) = z at *
          omega
        · rw [if_neg c3, if_neg (fun h9 => c3 h9.2.2)]
          split <;> omega
      · rw [if_neg c2, if_neg (fun h9 => c2 h9.2.1)]
        omega
    · rw [if_neg c0, if_neg (fun h9 => c0 h9.1)]
      omega
/-! the greedy giving of rounds -/
def nxS (F L : Nat → Int) (R : Nat → Int32) (b : Nat) : Nat → Option Nat
  | 0 => none
  | k + 1 => if R k = -1 ∧ F k ≤ b ∧ (b : Int) ≤ L k then (match nxS F L R b k with | none => some k | some j => if L j ≤ L k then some j else some k) else nxS F L R b k
def enc : Option Nat → Int32
  | none => -1
  | some j => nI j
def grS (F L : Nat → Int) (D b : Nat) : Nat → (Nat → Int32) → (Nat → Int32)
  | 0, R => R
  | m + 1, R => match nxS F L R b D with | none => R | some j => grS F L D b m (upd R j (nI b))
def rnS (F L : Nat → Int) (D m b0 : Nat) : Nat → (Nat → Int32)
  | 0 => fun _ => -1
  | j + 1 => grS F L D (b0 + 10 * j) m (rnS F L D m b0 j)
theorem nxS_some {F L : Nat → Int} {R : Nat → Int32} {b : Nat} : ∀ D j, nxS F L R b D = some j → j < D ∧ (R j = -1 ∧ F j ≤ b ∧ (b : Int) ≤ L j) ∧ ∀ k, k < D → (R k = -1 ∧ F k ≤ b ∧ (b : Int) ≤ L k) → L j ≤ L k
  | 0, j, h => nomatch h
  | D + 1, j, h => by
    unfold nxS at h
    by_cases c : R D = -1 ∧ F D ≤ b ∧ (b : Int) ≤ L D
    · rw [if_pos c] at h
      cases e : nxS F L R b D with
      | none =>
        rw [e] at h
        cases h
        have hn : ∀ k, k < D → ¬ (R k = -1 ∧ F k ≤ b ∧ (b : Int) ≤ L k) := by
          have aux : ∀ D, nxS F L R b D = none → ∀ k, k < D → ¬ (R k = -1 ∧ F k ≤ b ∧ (b : Int) ≤ L k) := by
            intro D
            induction D with
            | zero => intro _ k hk; exact absurd hk (Nat.not_lt_zero k)
            | succ D ih =>
              intro h k hk
              unfold nxS at h
              by_cases c : R D = -1 ∧ F D ≤ b ∧ (b : Int) ≤ L D
              · rw [if_pos c] at h
                cases e : nxS F L R b D with
                | none => rw [e] at h; exact nomatch h
                | some j =>
                  rw [e] at h
                  by_cases g : L j ≤ L D
                  · have h : (if L j ≤ L D then some j else some D) = none := h
                    rw [if_pos g] at h; exact nomatch h
                  · have h : (if L j ≤ L D then some j else some D) = none := h
                    rw [if_neg g] at h; exact nomatch h
              · rw [if_neg c] at h
                by_cases e : k = D
                · subst e; exact c
                · exact ih h k (by omega)
          exact aux D e
        refine ⟨by omega, c, fun k hk hc => ?_⟩
        by_cases e2 : k = D
        · subst e2; exact Int.le_refl _
        · exact absurd hc (hn k (by omega))
      | some i =>
        rw [e] at h
        obtain ⟨i1, i2, i3⟩ := nxS_some D i e
        have h : (if L i ≤ L D then some i else some D) = some j := h
        by_cases g : L i ≤ L D
        · rw [if_pos g] at h
          cases h
          refine ⟨by omega, i2, fun k hk hc => ?_⟩
          by_cases e2 : k = D
          · subst e2; exact g
          · exact i3 k (by omega) hc
        · rw [if_neg g] at h
          cases h
          refine ⟨by omega, c, fun k hk hc => ?_⟩
          by_cases e2 : k = D
          · subst e2; exact Int.le_refl _
          · have := i3 k (by omega) hc; omega
    · rw [if_neg c] at h
      obtain ⟨i1, i2, i3⟩ := nxS_some D j h
      refine ⟨by omega, i2, fun k hk hc => ?_⟩
      by_cases e2 : k = D
      · subst e2; exact absurd hc c
      · exact i3 k (by omega) hc
theorem nxS_none {F L : Nat → Int} {R : Nat → Int32} {b : Nat} : ∀ D, (∀ k, k < D → ¬ (R k = -1 ∧ F k ≤ b ∧ (b : Int) ≤ L k)) ↔ nxS F L R b D = none
  | 0 => ⟨fun _ => rfl, fun _ k hk => absurd hk (Nat.not_lt_zero k)⟩
  | D + 1 => by
    have ih := nxS_none (F := F) (L := L) (R := R) (b := b) D
    constructor
    · intro h
      unfold nxS
      rw [if_neg (h D (by omega))]
      exact ih.mp (fun k hk => h k (by omega))
    · intro h
      unfold nxS at h
      by_cases c : R D = -1 ∧ F D ≤ b ∧ (b : Int) ≤ L D
      · rw [if_pos c] at h
        cases e : nxS F L R b D with
        | none => rw [e] at h; exact nomatch h
        | some j =>
          rw [e] at h
          have h : (if L j ≤ L D then some j else some D) = none := h
          by_cases g : L j ≤ L D
          · rw [if_pos g] at h; exact nomatch h
          · rw [if_neg g] at h; exact nomatch h
      · rw [if_neg c] at h
        intro k hk
        by_cases e : k = D
        · subst e; exact c
        · exact ih.mpr h k (by omega)
/-- no dough that may still come -/
def lft (F L : Nat → Int) (R : Nat → Int32) (D b : Nat) : Prop := ∃ k, k < D ∧ F k ≤ L k ∧ R k = -1 ∧ (b : Int) ≤ L k
theorem grS_idle {F L : Nat → Int} {R : Nat → Int32} {D b : Nat} (h : ¬ lft F L R D b) (b' : Nat) (hb : b ≤ b') : ∀ m, grS F L D b' m R = R
  | 0 => rfl
  | m + 1 => by
    have : nxS F L R b' D = none := (nxS_none D).mp (fun k hk hc => h ⟨k, hk, by omega, hc.1, by omega⟩)
    unfold grS
    rw [this]
theorem rnS_idle {F L : Nat → Int} {D m b0 j : Nat} (h : ¬ lft F L (rnS F L D m b0 j) D (b0 + 10 * j)) : ∀ d, rnS F L D m b0 (j + d) = rnS F L D m b0 j
  | 0 => rfl
  | d + 1 => by
    show grS F L D (b0 + 10 * (j + d)) m (rnS F L D m b0 (j + d)) = _
    rw [rnS_idle h d]
    exact grS_idle h _ (by omega) m
def cntS (R : Nat → Int32) : Nat → Nat
  | 0 => 0
  | k + 1 => cntS R k + (if R k = -1 then 0 else 1)
theorem cntS_le (R : Nat → Int32) : ∀ D, cntS R D ≤ D
  | 0 => Nat.le_refl _
  | D + 1 => by
    have := cntS_le R D
    unfold cntS
    split <;> omega
theorem nIm1 {b : Nat} (hb : b < 2000000000) : ¬ nI b = -1 := fun h9 => absurd (congrArg Int32.toInt h9) (by rw [nI_toInt (by omega), show (-1 : Int32).toInt = -1 by decide]; omega)
theorem cntS_upd (R : Nat → Int32) {b j : Nat} (hb : b < 2000000000) (hj : R j = -1) : ∀ D, cntS (upd R j (nI b)) D = cntS R D + (if j < D then 1 else 0)
  | 0 => by rw [if_neg (Nat.not_lt_zero _)]; rfl
  | D + 1 => by
    have ih := cntS_upd R hb hj D
    unfold cntS
    rw [ih]
    by_cases e : D = j
    · subst e
      rw [upd_at, if_neg (nIm1 hb), if_pos hj, if_neg (show ¬ D < D by omega), if_pos (show D < D + 1 by omega)]
    · rw [upd_ne _ _ e]
      by_cases g : j < D
      · rw [if_pos g, if_pos (show j < D + 1 by omega)]; omega
      · rw [if_neg g, if_neg (show ¬ j < D + 1 by omega)]; omega
/-- a round keeps what has a round; where one may come and does not, all decks are full -/
theorem grS_cnt {F L : Nat → Int} {D b : Nat} (hb : b < 2000000000) : ∀ m R, (∀ k, ¬ R k = -1 → grS F L D b m R k = R k) ∧ cntS R D ≤ cntS (grS F L D b m R) D ∧ ((∃ k, k < D ∧ grS F L D b m R k = -1 ∧ F k ≤ b ∧ (b : Int) ≤ L k) → cntS R D + m ≤ cntS (grS F L D b m R) D)
  | 0, R => ⟨fun _ _ => rfl, Nat.le_refl _, fun _ => Nat.le_refl _⟩
  | m + 1, R => by
    cases e : nxS F L R b D with
    | none =>
      have eg : grS F L D b (m + 1) R = R := by unfold grS; rw [e]
      rw [eg]
      refine ⟨fun _ _ => rfl, Nat.le_refl _, fun ⟨k, h1, h2, h3, h4⟩ => absurd ⟨h2, h3, h4⟩ ((nxS_none D).mpr e k h1)⟩
    | some j =>
      have eg : grS F L D b (m + 1) R = grS F L D b m (upd R j (nI b)) := by
        show (match nxS F L R b D with | none => R | some j => grS F L D b m (upd R j (nI b))) = _
        rw [e]
      obtain ⟨j1, j2, j3⟩ := nxS_some D j e
      obtain ⟨c1, c2, c3⟩ := grS_cnt (F := F) (L := L) (D := D) hb m (upd R j (nI b))
      rw [eg]
      have hc := cntS_upd R hb j2.1 D
      rw [if_pos j1] at hc
      refine ⟨fun k hk => ?_, by omega, fun h => by have := c3 h; omega⟩
      have : k ≠ j := fun h9 => hk (by rw [h9]; exact j2.1)
      have e2 : upd R j (nI b) k = R k := upd_ne _ _ this
      rw [c1 k (by rw [e2]; exact hk), e2]
theorem rnS_mono {F L : Nat → Int} {D m b0 : Nat} (hb : b0 < 1000000) : ∀ j d, j + d ≤ 100 → ∀ k, ¬ rnS F L D m b0 j k = -1 → rnS F L D m b0 (j + d) k = rnS F L D m b0 j k
  | j, 0, _, k, _ => rfl
  | j, d + 1, hd, k, h => by
    have ih := rnS_mono hb j d (by omega) k h
    show grS F L D (b0 + 10 * (j + d)) m (rnS F L D m b0 (j + d)) k = _
    rw [(grS_cnt (by omega) m _).1 k (by rw [ih]; exact h), ih]
/-- forty rounds are enough -/
theorem rn_enough {F L : Nat → Int} {D m b0 T : Nat} (hD : D ≤ 20) (hm : 1 ≤ m) (hb : b0 < 200000) (hT : T ≤ b0) (hL : ∀ k, k < D → L k ≤ (T : Int) + 200 ∨ (L k = 1000000 ∧ F k = (T : Int))) : ¬ lft F L (rnS F L D m b0 40) D (b0 + 10 * 40) := by
  intro ⟨k, h1, h2, h3, h4⟩
  rcases hL k h1 with h5 | ⟨h5, h6⟩
  · omega
  · have key : ∀ j, j ≤ 40 → j ≤ cntS (rnS F L D m b0 j) D := by
      intro j
      induction j with
      | zero => intro _; exact Nat.zero_le _
      | succ j ih =>
        intro hj
        have ih := ih (by omega)
        have hk : rnS F L D m b0 (j + 1) k = -1 := by
          by_cases g : rnS F L D m b0 (j + 1) k = -1
          · exact g
          · have := rnS_mono (F := F) (L := L) (D := D) (m := m) (b0 := b0) (by omega) (j + 1) (40 - (j + 1)) (by omega) k g
            rw [show j + 1 + (40 - (j + 1)) = 40 by omega, h3] at this
            exact this.symm
        have c := (grS_cnt (F := F) (L := L) (D := D) (b := b0 + 10 * j) (by omega) m (rnS F L D m b0 j)).2.2 ⟨k, h1, hk, by omega, by omega⟩
        show j + 1 ≤ cntS (grS F L D (b0 + 10 * j) m (rnS F L D m b0 j)) D
        omega
    have := key 40 (Nat.le_refl _)
    have := cntS_le (rnS F L D m b0 40) D
    omega
/-! the class makes the plan -/
def plB (s : sS) : Nat := ((s 0).toInt.toNat + 9) / 10 * 10
def plR (s : sS) : Nat → Int32 := rnS (plF s) (plL s) (cD s) (s 4).toInt.toNat (plB s) 40
theorem X_beginOf {N : Nat} {σ : xSt} {H : List sS} {s : sS} {tx : (Nat → Int32) × Nat} (h : RX σ (H, s, tx)) (hI : Inv N s) {j : Nat} (hj : j < 1000) : fX7_beginOf (nI j) σ = some (nI (plB s + 10 * j), σ) := by
  have o := hI.oven.1
  have e : s 0 = nI (s 0).toInt.toNat := bt_nI o (by decide)
  have o1 := o.2
  have a : σ 20 0 = nI (s 0).toInt.toNat := (X_at_tick h).trans e
  unfold fX7_beginOf plB
  rw [a, show (10 : Int32) = nI 10 from rfl, nI_add, show nI ((s 0).toInt.toNat + 10) - 1 = nI ((s 0).toInt.toNat + 9) from nI_pred _]
  have d : nI ((s 0).toInt.toNat + 9) / nI 10 = nI (((s 0).toInt.toNat + 9) / 10) := by
    rw [fa_eq, i32_div (by rw [nI_toInt (by omega)]; omega) (by decide), nI_toInt (by omega), nI_toInt (by omega), nI_toInt (by omega)]
    omega
  rw [d, xl_t, nI_add, nI_mul]
  congr 2
  congr 1
  omega
theorem X_rising {N : Nat} {σ : xSt} {H : List sS} {s : sS} {tx : (Nat → Int32) × Nat} (h : RX σ (H, s, tx)) (hI : Inv N s) {k : Nat} (hk : k < cD s) (g0 : s (163 + k) = 0) (i1 : σ 22 k = s 0) (i2 : σ 23 k = -1) : ∃ σ', fX7_setTicksOfRising (nI k) (s (25 + drc s k) - s (143 + k)) (s (31 + drc s k) - s (143 + k)) σ = some σ' ∧ (∀ q, q ≠ 22 → q ≠ 23 → σ' q = σ q) ∧ (∀ j, j ≠ k → σ' 22 j = σ 22 j ∧ σ' 23 j = σ 23 j) ∧ (σ' 22 k).toInt = plF s k ∧ (σ' 23 k).toInt = plL s k := by
  have hcD := hI.caps.2.1
  have hr := drc_lt hI.caps hk
  obtain ⟨a1, a2, a3, ⟨a4, a5⟩, a6, a7⟩ := hI.dough k hk
  obtain ⟨b1, b2, b3, b4, b5, b6⟩ := hI.rec.1 _ hr
  have g := gn_b s
  have o := hI.oven.1
  unfold bt at a4 a5 b2 b3 o
  have t1 : (s (25 + drc s k) - s (143 + k)).toInt = (s (25 + drc s k)).toInt - (s (143 + k)).toInt := i32_sub (by omega) (by omega)
  have t2 : (s (31 + drc s k) - s (143 + k)).toInt = (s (31 + drc s k)).toInt - (s (143 + k)).toInt := i32_sub (by omega) (by omega)
  unfold fX7_setTicksOfRising
  rw [X_gain h hI.oven.2.1, xc2_t]
  have c1 : ¬ s (163 + k) = 1 := by rw [g0]; decide
  by_cases c2 : 0 ≤ (s (31 + drc s k)).toInt - (s (143 + k)).toInt
  · rw [if_pos (show (0 : Int32) ≤ s (31 + drc s k) - s (143 + k) from (fa_le _ _).mpr (by rw [t2]; exact c2))]
    by_cases c3 : 0 < (gn s).toInt
    · rw [if_neg (show ¬ gn s ≤ 0 from fun h9 => by rw [fa_le] at h9; have h9 : _ ≤ (0 : Int) := h9; omega), xl_t]
      have nz : ¬ gn s = 0 := fun h9 => by rw [h9] at c3; exact absurd c3 (by decide)
      generalize hv : (if s (25 + drc s k) - s (143 + k) < 0 then (0 : Int32) else s (25 + drc s k) - s (143 + k)) = v
      have tv : v.toInt = (if (s (25 + drc s k)).toInt - (s (143 + k)).toInt < 0 then 0 else (s (25 + drc s k)).toInt - (s (143 + k)).toInt) := by
        rw [← hv]
        by_cases c4 : s (25 + drc s k) - s (143 + k) < 0
        · rw [if_pos c4, if_pos (by rw [fa_lt, t1] at c4; exact c4)]; rfl
        · rw [if_neg c4, if_neg (by rw [fa_lt, t1] at c4; exact c4), t1]
      have vb : 0 ≤ v.toInt ∧ v.toInt ≤ 200 := by rw [tv]; split <;> omega
      have t3 : (v + gn s).toInt = v.toInt + (gn s).toInt := i32_add (by omega) (by omega)
      have t4 : (v + gn s - 1).toInt = v.toInt + (gn s).toInt - 1 := by
        rw [i32_sub] <;> rw [t3] <;> show _ <;> first | rfl | (show (_ : Int) ≤ _ - 1; omega) | (show (_ : Int) - 1 < _; omega)
      have t5 : ((v + gn s - 1) / gn s).toInt = (v.toInt + (gn s).toInt - 1) / (gn s).toInt := by rw [i32_div (by rw [t4]; omega) c3, t4]
      have t6 : ((s (31 + drc s k) - s (143 + k)) / gn s).toInt = ((s (31 + drc s k)).toInt - (s (143 + k)).toInt) / (gn s).toInt := by rw [i32_div (by rw [t2]; omega) c3, t2]
      have u5 : (v.toInt + (gn s).toInt - 1) / (gn s).toInt ≤ v.toInt + (gn s).toInt - 1 := Int.ediv_le_self _ (by omega)
      have u5' : 0 ≤ (v.toInt + (gn s).toInt - 1) / (gn s).toInt := Int.ediv_nonneg (by omega) (by omega)
      have u6 : ((s (31 + drc s k)).toInt - (s (143 + k)).toInt) / (gn s).toInt ≤ (s (31 + drc s k)).toInt - (s (143 + k)).toInt := Int.ediv_le_self _ c2
      have u6' : 0 ≤ ((s (31 + drc s k)).toInt - (s (143 + k)).toInt) / (gn s).toInt := Int.ediv_nonneg c2 (by omega)
      have a0 : σ 20 0 = s 0 := X_at_tick h
      rw [xnz_t nz, xs_n (by omega) (by decide), xnz_t nz, xs_n (by omega) (by decide), xu_ne _ _ _ (by decide), a0]
      refine ⟨_, rfl, fun q h1 h2 => by rw [xu_ne _ _ _ h2, xu_ne _ _ _ h1], fun j hj => ⟨by rw [xu_ne _ _ _ (by decide), xu_at, upd_ne _ _ hj], by rw [xu_at, upd_ne _ _ hj, xu_ne _ _ _ (by decide)]⟩, ?_, ?_⟩
      · rw [xu_ne _ _ _ (by decide), xu_at, upd_at, i32_add (by rw [t5]; omega) (by rw [t5]; omega), t5, tv]
        exact (show plF s k = _ from if_pos ⟨g0, c2, c3⟩).symm
      · rw [xu_at, upd_at, i32_add (by rw [t6]; omega) (by rw [t6]; omega), t6]
        unfold plL
        rw [if_neg c1, if_pos g0, if_pos c2, if_pos c3]
    · rw [if_pos (show gn s ≤ 0 from (fa_le _ _).mpr (by show _ ≤ (0 : Int); omega))]
      have eF : plF s k = (s 0).toInt := by unfold plF; rw [if_neg (fun h9 => c3 h9.2.2)]
      have eL : plL s k = if (s (25 + drc s k)).toInt - (s (143 + k)).toInt ≤ 0 then 1000000 else -1 := by
        unfold plL
        rw [if_neg c1, if_pos g0, if_pos c2, if_neg c3]
      by_cases c4 : (s (25 + drc s k)).toInt - (s (143 + k)).toInt ≤ 0
      · rw [if_neg (show ¬ (0 : Int32) < s (25 + drc s k) - s (143 + k) from fun h9 => by rw [fa_lt, t1] at h9; have h9 : (0 : Int) < _ := h9; omega), xs_n (by omega) (by decide)]
        refine ⟨_, rfl, fun q h1 h2 => xu_ne _ _ _ h2, fun j hj => ⟨by rw [xu_ne _ _ _ (by decide)], by rw [xu_at, upd_ne _ _ hj]⟩, ?_, ?_⟩
        · rw [xu_ne _ _ _ (by decide), i1, eF]
        · rw [xu_at, upd_at, eL, if_pos c4]; decide
      · rw [if_pos (show (0 : Int32) < s (25 + drc s k) - s (143 + k) from (fa_lt _ _).mpr (by rw [t1]; show (0 : Int) < _; omega))]
        exact ⟨σ, rfl, fun _ _ _ => rfl, fun _ _ => ⟨rfl, rfl⟩, by rw [i1, eF], by rw [i2, eL, if_neg c4]; decide⟩
  · rw [if_neg (show ¬ (0 : Int32) ≤ s (31 + drc s k) - s (143 + k) from fun h9 => by rw [fa_le, t2] at h9; exact c2 h9)]
    refine ⟨σ, rfl, fun _ _ _ => rfl, fun _ _ => ⟨rfl, rfl⟩, ?_, ?_⟩
    · rw [i1]; unfold plF; rw [if_neg (fun h9 => c2 h9.2.1)]
    · rw [i2]; unfold plL; rw [if_neg c1, if_pos g0, if_neg c2]; decide
theorem X_setTicks {N : Nat} {σ : xSt} {H : List sS} {s : sS} {tx : (Nat → Int32) × Nat} (h : RX σ (H, s, tx)) (hI : Inv N s) {k : Nat} (hk : k < cD s) : ∃ σ', fX7_setTicks (nI k) σ = some σ' ∧ (∀ q, q ≠ 22 → q ≠ 23 → σ' q = σ q) ∧ (∀ j, j ≠ k → σ' 22 j = σ 22 j ∧ σ' 23 j = σ 23 j) ∧ (σ' 22 k).toInt = plF s k ∧ (σ' 23 k).toInt = plL s k := by
  have hcD := hI.caps.2.1
  have hcR := hI.caps.1
  have hr := drc_lt hI.caps hk
  have a20 : σ 20 0 = s 0 := X_at_tick h
  unfold fX7_setTicks
  rw [xs_n (by omega) (by decide), xs_n (by omega) (by decide)]
  generalize hu : xu (xu σ 22 k (σ 20 0)) 23 k (-1) = u
  have fu : fX σ u := by
    rw [← hu]
    exact (((fX.refl σ).xu 22 k _ (by decide) (fun h9 => absurd h9 (by decide))).xu 23 k _ (by decide) (fun h9 => absurd h9 (by decide)))
  have hx := h.scr fu
  have u1 : ∀ q, q ≠ 22 → q ≠ 23 → u q = σ q := fun q h1 h2 => by rw [← hu, xu_ne _ _ _ h2, xu_ne _ _ _ h1]
  have u2 : ∀ j, j ≠ k → u 22 j = σ 22 j ∧ u 23 j = σ 23 j := fun j hj => by
    rw [← hu]
    exact ⟨by rw [xu_ne _ _ _ (by decide), xu_at, upd_ne _ _ hj], by rw [xu_at, upd_ne _ _ hj, xu_ne _ _ _ (by decide)]⟩
  have u3 : u 22 k = s 0 := by rw [← hu, xu_ne _ _ _ (by decide), xu_at, upd_at, a20]
  have u4 : u 23 k = -1 := by rw [← hu, xu_at, upd_at]
  have b1 : u 13 k = nI (drc s k) := (X_at_drec hx hk).trans (drc_eq hI hk)
  have b2 : u 17 k = s (163 + k) := X_at_state hx (by omega)
  have b3 : u 18 k = s (183 + k) := X_at_shaped hx (by omega)
  have b4 : u 10 (drc s k) = s (49 + drc s k) := (X_at_wait hx (k := drc s k) (by omega)).trans (if_pos hr)
  have b5 : u 6 (drc s k) = s (25 + drc s k) := X_at_low hx hr
  have b6 : u 7 (drc s k) = s (31 + drc s k) := X_at_high hx hr
  have b7 : u 16 k = s (143 + k) := X_at_points hx (by omega)
  rw [xr_n (by omega) (by decide), b1, xr_n (by omega) (by decide), b2]
  by_cases c1 : s (163 + k) = 1
  · rw [if_pos c1, xr_n (by omega) (by decide), b3, xr_n (by omega) (by decide), b4, xs_n (by omega) (by decide)]
    have a4 := (hI.dough k hk).2.2.2.1.1
    have b6 := (hI.rec.1 _ hr).2.2.2.2.2
    have o := hI.oven.1
    refine ⟨_, rfl, fun q h1 h2 => (xu_ne _ _ _ h2).trans (u1 q h1 h2), fun j hj => ⟨by rw [xu_ne _ _ _ (by decide)]; exact (u2 j hj).1, by rw [xu_at, upd_ne _ _ hj]; exact (u2 j hj).2⟩, ?_, ?_⟩
    · rw [xu_ne _ _ _ (by decide), u3]
      unfold plF
      rw [if_neg (fun h9 => absurd (c1.symm.trans h9.1) (by decide))]
    · rw [xu_at, upd_at, i32_add (by have := a4.1; have := b6.1; omega) (by have := a4.2; have := b6.2; have := o.2; omega)]
      unfold plL
      rw [if_pos c1]
  · rw [if_neg c1, xr_n (by omega) (by decide), b2]
    by_cases c0 : s (163 + k) = 0
    · rw [if_pos c0, xr_n (by omega) (by decide), b5, xr_n (by omega) (by decide), b7, xr_n (by omega) (by decide), b6, xr_n (by omega) (by decide), b7]
      obtain ⟨σ', e1, e2, e3, e4, e5⟩ := X_rising hx hI hk c0 u3 u4
      rw [e1, xc_t]
      exact ⟨σ', rfl, fun q h1 h2 => (e2 q h1 h2).trans (u1 q h1 h2), fun j hj => ⟨(e3 j hj).1.trans (u2 j hj).1, (e3 j hj).2.trans (u2 j hj).2⟩, e4, e5⟩
    · rw [if_neg c0]
      refine ⟨u, rfl, u1, u2, ?_, ?_⟩
      · rw [u3]; unfold plF; rw [if_neg (fun h9 => c0 h9.1)]
      · rw [u4]; unfold plL; rw [if_neg c1, if_neg c0]; decide
/-- the plan's cells: first and last ticks, and the rounds so far -/
def xP (s : sS) (σ : xSt) (R : Nat → Int32) : Prop := (∀ k, k < cD s → (σ 22 k).toInt = plF s k ∧ (σ 23 k).toInt = plL s k) ∧ ∀ k, k < cD s → σ 24 k = R k
theorem X_next {N : Nat} {σ : xSt} {H : List sS} {s : sS} {tx : (Nat → Int32) × Nat} (h : RX σ (H, s, tx)) (hI : Inv N s) {R : Nat → Int32} (hP : xP s σ R) (k2 : (Int32 → Int32 → xSt → Option xSt)) {b : Nat} (hb : b < 2000000) (a2 : Int32) : ∀ (d i n : Nat), i + d = cD s → d < n → fX7_giveRound_c18 k2 n (nI b) a2 (enc (nxS (plF s) (plL s) R b i)) (nI i) σ = (match nxS (plF s) (plL s) R b (cD s) with | none => some σ | some j => k2 (nI b) (a2 + 1) (xu σ 24 j (nI b))) := by
  have hcD := hI.caps.2.1
  have a12 : σ 12 7 = nI (cD s) := (X_at_ndough h).trans hI.caps.2.2.2.2.2.2.1
  intro d
  induction d with
  | zero =>
    intro i n hi hn
    obtain ⟨n, rfl⟩ : ∃ z, n = z + 1 := ⟨n - 1, by omega⟩
    obtain rfl : i = cD s := by omega
    rw [fX7_giveRound_c18_s, a12, if_pos (nI_le (Nat.le_refl _) (by omega))]
    cases e : nxS (plF s) (plL s) R b (cD s) with
    | none => exact if_pos rfl
    | some j =>
      obtain ⟨j1, -, -⟩ := nxS_some _ _ e
      show (if nI j = -1 then _ else _) = _
      rw [if_neg (nIm1 (by omega))]
      show xs σ 24 20 (nI j) (nI b) _ = _
      rw [xs_n (by omega) (by decide), xl_t]
  | succ d ih =>
    intro i n hi hn
    obtain ⟨n, rfl⟩ : ∃ z, n = z + 1 := ⟨n - 1, by omega⟩
    have ih := ih (i + 1) n (by omega) (by omega)
    obtain ⟨p1, p2⟩ := hP.1 i (by omega)
    have p3 := hP.2 i (by omega)
    have es : nxS (plF s) (plL s) R b (i + 1) = if R i = -1 ∧ plF s i ≤ b ∧ (b : Int) ≤ plL s i then (match nxS (plF s) (plL s) R b i with | none => some i | some j => if plL s j ≤ plL s i then some j else some i) else nxS (plF s) (plL s) R b i := rfl
    have hc : fX7_canBegin (nI i) (nI b) σ = some (if plF s i ≤ b ∧ (b : Int) ≤ plL s i then 1 else 0, σ) := by
      unfold fX7_canBegin
      rw [xr_n (by omega) (by decide), xr_n (by omega) (by decide)]
      by_cases g1 : plF s i ≤ b
      · rw [if_neg (show ¬ nI b < σ 22 i from fun h9 => by rw [fa_lt, p1, nI_toInt (by omega)] at h9; omega)]
        by_cases g2 : (b : Int) ≤ plL s i
        · rw [if_neg (show ¬ σ 23 i < nI b from fun h9 => by rw [fa_lt, p2, nI_toInt (by omega)] at h9; omega), if_pos ⟨g1, g2⟩]
        · rw [if_pos (show σ 23 i < nI b from (fa_lt _ _).mpr (by rw [p2, nI_toInt (by omega)]; omega)), if_neg (fun h9 => g2 h9.2)]
      · rw [if_pos (show nI b < σ 22 i from (fa_lt _ _).mpr (by rw [p1, nI_toInt (by omega)]; omega)), if_neg (fun h9 => g1 h9.1)]
    rw [fX7_giveRound_c18_s, a12, if_neg (nI_ge (by omega) (by omega)), xr_n (by omega) (by decide), p3]
    by_cases c1 : R i = -1
    · rw [if_pos c1, hc, xc2_t, x_i10]
      by_cases c2 : plF s i ≤ b ∧ (b : Int) ≤ plL s i
      · rw [if_pos (show R i = -1 ∧ plF s i ≤ b ∧ (b : Int) ≤ plL s i from ⟨c1, c2⟩)] at es
        rw [if_pos c2]
        cases e : nxS (plF s) (plL s) R b i with
        | none =>
          rw [e] at es
          have es : nxS (plF s) (plL s) R b (i + 1) = some i := es
          rw [es] at ih
          rw [if_pos (show enc none = -1 from rfl), xl_t, nI_1]
          exact ih
        | some j =>
          rw [e] at es
          obtain ⟨j1, -, -⟩ := nxS_some _ _ e
          have es : nxS (plF s) (plL s) R b (i + 1) = if plL s j ≤ plL s i then some j else some i := es
          rw [if_neg (show ¬ enc (some j) = -1 from nIm1 (by omega))]
          show xr σ 23 20 (nI i) _ = _
          rw [xr_n (by omega) (by decide)]
          show xr σ 23 20 (nI j) _ = _
          rw [xr_n (by omega) (by decide)]
          have q2 := (hP.1 j (by omega)).2
          by_cases c3 : plL s j ≤ plL s i
          · rw [if_pos c3] at es
            rw [es] at ih
            rw [if_pos (show σ 23 j ≤ σ 23 i from (fa_le _ _).mpr (by rw [p2, q2]; exact c3)), xl_t, nI_1]
            exact ih
          · rw [if_neg c3] at es
            rw [es] at ih
            rw [if_neg (show ¬ σ 23 j ≤ σ 23 i from fun h9 => by rw [fa_le, p2, q2] at h9; exact c3 h9), xl_t, nI_1]
            exact ih
      · rw [if_neg (show ¬ (R i = -1 ∧ plF s i ≤ b ∧ (b : Int) ≤ plL s i) from fun h9 => c2 h9.2)] at es
        rw [es] at ih
        rw [if_neg c2, xl_t, nI_1]
        exact ih
    · rw [if_neg (show ¬ (R i = -1 ∧ plF s i ≤ b ∧ (b : Int) ≤ plL s i) from fun h9 => c1 h9.1)] at es
      rw [es] at ih
      rw [if_neg c1, xl_t, nI_1]
      exact ih
theorem X_give {N : Nat} {H : List sS} {s : sS} {tx : (Nat → Int32) × Nat} (hI : Inv N s) {b : Nat} (hb : b < 2000000) : ∀ (m a2 n : Nat) (σ : xSt) (R : Nat → Int32), a2 + m = (s 4).toInt.toNat → m < n → RX σ (H, s, tx) → xP s σ R → ∃ σ', fX7_giveRound_c2 n (nI b) (nI a2) σ = some σ' ∧ RX σ' (H, s, tx) ∧ xP s σ' (grS (plF s) (plL s) (cD s) b m R) ∧ fX σ σ' := by
  have hcD := hI.caps.2.1
  have o := hI.oven.2.2.2.2
  have e4 : s 4 = nI (s 4).toInt.toNat := bt_nI o (by decide)
  have o2 := o.2
  intro m
  induction m with
  | zero =>
    intro a2 n σ R ha hn h hP
    obtain ⟨n, rfl⟩ : ∃ z, n = z + 1 := ⟨n - 1, by omega⟩
    have a : σ 20 2 = nI (s 4).toInt.toNat := (X_at_decks h).trans e4
    rw [fX7_giveRound_c2_s, a, if_pos (nI_le (by omega) (by omega))]
    exact ⟨σ, rfl, h, hP, fX.refl σ⟩
  | succ m ih =>
    intro a2 n σ R ha hn h hP
    obtain ⟨n, rfl⟩ : ∃ z, n = z + 1 := ⟨n - 1, by omega⟩
    have a : σ 20 2 = nI (s 4).toInt.toNat := (X_at_decks h).trans e4
    rw [fX7_giveRound_c2_s, a, if_neg (nI_ge (by omega) (by omega)), show fX7_giveRound_c18 (fX7_giveRound_c2 n) xFU (nI b) (nI a2) (-1) 0 σ = _ from X_next h hI hP (fX7_giveRound_c2 n) hb (nI a2) (cD s) 0 xFU (Nat.zero_add _) (by show cD s < 8192; omega)]
    have eg : grS (plF s) (plL s) (cD s) b (m + 1) R = (match nxS (plF s) (plL s) R b (cD s) with | none => R | some j => grS (plF s) (plL s) (cD s) b m (upd R j (nI b))) := rfl
    cases e : nxS (plF s) (plL s) R b (cD s) with
    | none =>
      rw [e] at eg
      have eg : grS (plF s) (plL s) (cD s) b (m + 1) R = R := eg
      rw [eg]
      exact ⟨σ, rfl, h, hP, fX.refl σ⟩
    | some j =>
      rw [e] at eg
      have eg : grS (plF s) (plL s) (cD s) b (m + 1) R = grS (plF s) (plL s) (cD s) b m (upd R j (nI b)) := eg
      rw [eg]
      have f1 : fX σ (xu σ 24 j (nI b)) := (fX.refl σ).xu 24 j _ (by decide) (fun h9 => absurd h9 (by decide))
      obtain ⟨σ', e1, e2, e3, e4⟩ := ih (a2 + 1) n (xu σ 24 j (nI b)) (upd R j (nI b)) (by omega) (by omega) (h.scr f1) ⟨fun k hk => by rw [xu_ne _ _ _ (by decide), xu_ne _ _ _ (by decide)]; exact hP.1 k hk, fun k hk => by
        rw [xu_at]
        by_cases e9 : k = j
        · rw [e9, upd_at, upd_at]
        · rw [upd_ne _ _ e9, upd_ne _ _ e9]; exact hP.2 k hk⟩
      refine ⟨σ', ?_, e2, e3, f1.trans e4⟩
      show fX7_giveRound_c2 n (nI b) (nI a2 + 1) _ = _
      rw [nI_1]; exact e1
theorem X_rounds {N : Nat} {H : List sS} {s : sS} {tx : (Nat → Int32) × Nat} (hI : Inv N s) : ∀ (d j n : Nat) (σ : xSt), j + d = 40 → d < n → RX σ (H, s, tx) → xP s σ (rnS (plF s) (plL s) (cD s) (s 4).toInt.toNat (plB s) j) → ∃ σ', fX7_make_c33 n (nI j) σ = some σ' ∧ RX σ' (H, s, tx) ∧ xP s σ' (plR s) ∧ fX σ σ' := by
  have o := hI.oven.1.2
  have o4 := hI.oven.2.2.2.2.2
  have hB : plB s < 200000 := by unfold plB; omega
  intro d
  induction d with
  | zero =>
    intro j n σ hj hn h hP
    obtain ⟨n, rfl⟩ : ∃ z, n = z + 1 := ⟨n - 1, by omega⟩
    obtain rfl : j = 40 := by omega
    rw [fX7_make_c33_s, if_pos (show (40 : Int32) ≤ nI 40 by decide)]
    exact ⟨σ, rfl, h, hP, fX.refl σ⟩
  | succ d ih =>
    intro j n σ hj hn h hP
    obtain ⟨n, rfl⟩ : ∃ z, n = z + 1 := ⟨n - 1, by omega⟩
    obtain ⟨σ1, e1, h1, p1, f1⟩ := X_give (tx := tx) (H := H) hI (b := plB s + 10 * j) (by omega) (s 4).toInt.toNat 0 xFU σ _ (Nat.zero_add _) (by show _ < 8192; omega) h hP
    obtain ⟨σ2, e2, h2, p2, f2⟩ := ih (j + 1) n σ1 (by omega) (by omega) h1 p1
    refine ⟨σ2, ?_, h2, p2, f1.trans f2⟩
    rw [fX7_make_c33_s, if_neg (show ¬ (40 : Int32) ≤ nI j from nI_ge (a := j) (b := 40) (by omega) (by decide)), X_beginOf h hI (by omega), xc2_t]
    unfold fX7_giveRound
    rw [show fX7_giveRound_c2 xFU (nI (plB s + 10 * j)) 0 σ = some σ1 from e1, xc_t, xl_t, nI_1]
    exact e2
theorem X_makeLoop {N : Nat} {H : List sS} {s : sS} {tx : (Nat → Int32) × Nat} (hI : Inv N s) : ∀ (d i n : Nat) (σ : xSt), i + d = cD s → d < n → RX σ (H, s, tx) → (∀ k, k < i → (σ 22 k).toInt = plF s k ∧ (σ 23 k).toInt = plL s k ∧ σ 24 k = -1) → ∃ σ', fX7_make_c2 n (nI i) σ = some σ' ∧ RX σ' (H, s, tx) ∧ xP s σ' (plR s) ∧ fX σ σ' := by
  have hcD := hI.caps.2.1
  intro d
  induction d with
  | zero =>
    intro i n σ hi hn h hP
    obtain ⟨n, rfl⟩ : ∃ z, n = z + 1 := ⟨n - 1, by omega⟩
    obtain rfl : i = cD s := by omega
    have a12 : σ 12 7 = nI (cD s) := (X_at_ndough h).trans hI.caps.2.2.2.2.2.2.1
    rw [fX7_make_c2_s, a12, if_pos (nI_le (Nat.le_refl _) (by omega))]
    exact X_rounds hI 40 0 xFU σ rfl (by decide) h ⟨fun k hk => ⟨(hP k hk).1, (hP k hk).2.1⟩, fun k hk => (hP k hk).2.2⟩
  | succ d ih =>
    intro i n σ hi hn h hP
    obtain ⟨n, rfl⟩ : ∃ z, n = z + 1 := ⟨n - 1, by omega⟩
    have a12 : σ 12 7 = nI (cD s) := (X_at_ndough h).trans hI.caps.2.2.2.2.2.2.1
    rw [fX7_make_c2_s, a12, if_neg (nI_ge (by omega) (by omega)), xs_n (by omega) (by decide)]
    have f1 : fX σ (xu σ 24 i (-1)) := (fX.refl σ).xu 24 i _ (by decide) (fun h9 => absurd h9 (by decide))
    obtain ⟨σ1, e1, g1, g2, g3, g4⟩ := X_setTicks (h.scr f1) hI (k := i) (by omega)
    have f2 : fX (xu σ 24 i (-1)) σ1 := ⟨fun q hq => g1 q (fun e => by rw [e] at hq; exact absurd hq (by decide)) (fun e => by rw [e] at hq; exact absurd hq (by decide)), by rw [g1 38 (by decide) (by decide)]⟩
    obtain ⟨σ2, e2, h2, p2, f3⟩ := ih (i + 1) n σ1 (by omega) (by omega) ((h.scr f1).scr f2) (fun k hk => by
      rw [g1 24 (by decide) (by decide), xu_at]
      by_cases e : k = i
      · rw [e, upd_at]; exact ⟨g3, g4, rfl⟩
      · rw [(g2 k e).1, (g2 k e).2, upd_ne _ _ e, xu_ne _ _ _ (by decide), xu_ne _ _ _ (by decide)]
        exact hP k (by omega))
    refine ⟨σ2, ?_, h2, p2, (f1.trans f2).trans f3⟩
    rw [e1, xc_t, xl_t, nI_1]
    exact e2
theorem X_make {N : Nat} {σ : xSt} {H : List sS} {s : sS} {tx : (Nat → Int32) × Nat} (h : RX σ (H, s, tx)) (hI : Inv N s) : ∃ σ', fX7_make σ = some σ' ∧ RX σ' (H, s, tx) ∧ xP s σ' (plR s) ∧ fX σ σ' := by
  have hcD := hI.caps.2.1
  exact X_makeLoop hI (cD s) 0 xFU σ (Nat.zero_add _) (by show cD s < 8192; omega) h (fun k hk => absurd hk (Nat.not_lt_zero k))
def plN (s : sS) : Int32 := s32 (fun k => if plF s k ≤ plL s k then 1 else 0) (cD s)
def plW (s : sS) : Int32 := s32 (fun k => if plF s k ≤ plL s k ∧ plR s k = -1 then 1 else 0) (cD s)
theorem X_isInPlan {s : sS} {σ : xSt} {R : Nat → Int32} (hP : xP s σ R) {k : Nat} (hk : k < cD s) (h20 : cD s ≤ 20) : fX7_isInPlan (nI k) σ = some (if plF s k ≤ plL s k then 1 else 0, σ) := by
  obtain ⟨p1, p2⟩ := hP.1 k hk
  unfold fX7_isInPlan
  rw [xr_n (by omega) (by decide), xr_n (by omega) (by decide)]
  by_cases g : plF s k ≤ plL s k
  · rw [if_pos g, if_neg (show ¬ σ 23 k < σ 22 k from fun h9 => by rw [fa_lt, p1, p2] at h9; omega)]
  · rw [if_neg g, if_pos (show σ 23 k < σ 22 k from (fa_lt _ _).mpr (by rw [p1, p2]; omega))]
theorem X_inPlanLoop {N : Nat} {σ : xSt} {H : List sS} {s : sS} {tx : (Nat → Int32) × Nat} (h : RX σ (H, s, tx)) (hI : Inv N s) {R : Nat → Int32} (hP : xP s σ R) : ∀ (d i n : Nat), i + d = cD s → d < n → fX7_doughsInPlan_c4 n (s32 (fun k => if plF s k ≤ plL s k then 1 else 0) i) (nI i) σ = some (plN s, σ) := by
  have hcD := hI.caps.2.1
  have a12 : σ 12 7 = nI (cD s) := (X_at_ndough h).trans hI.caps.2.2.2.2.2.2.1
  intro d
  induction d with
  | zero =>
    intro i n hi hn
    obtain ⟨n, rfl⟩ : ∃ z, n = z + 1 := ⟨n - 1, by omega⟩
    obtain rfl : i = cD s := by omega
    rw [fX7_doughsInPlan_c4_s, a12, if_pos (nI_le (Nat.le_refl _) (by omega))]
    rfl
  | succ d ih =>
    intro i n hi hn
    obtain ⟨n, rfl⟩ : ∃ z, n = z + 1 := ⟨n - 1, by omega⟩
    have ih := ih (i + 1) n (by omega) (by omega)
    have es : s32 (fun k => if plF s k ≤ plL s k then (1 : Int32) else 0) (i + 1) = s32 (fun k => if plF s k ≤ plL s k then (1 : Int32) else 0) i + (if plF s i ≤ plL s i then 1 else 0) := rfl
    rw [es] at ih
    rw [fX7_doughsInPlan_c4_s, a12, if_neg (nI_ge (by omega) (by omega)), X_isInPlan hP (by omega) hcD, xc2_t, x_i10]
    by_cases g : plF s i ≤ plL s i
    · rw [if_pos g] at ih ⊢
      rw [xl_t, xl_t, nI_1]; exact ih
    · rw [if_neg g, Int32.add_zero] at ih
      rw [if_neg g, xl_t, nI_1]; exact ih
theorem X_withoutLoop {N : Nat} {σ : xSt} {H : List sS} {s : sS} {tx : (Nat → Int32) × Nat} (h : RX σ (H, s, tx)) (hI : Inv N s) (hP : xP s σ (plR s)) : ∀ (d i n : Nat), i + d = cD s → d < n → fX7_doughsWithoutRound_c4 n (s32 (fun k => if plF s k ≤ plL s k ∧ plR s k = -1 then 1 else 0) i) (nI i) σ = some (plW s, σ) := by
  have hcD := hI.caps.2.1
  have a12 : σ 12 7 = nI (cD s) := (X_at_ndough h).trans hI.caps.2.2.2.2.2.2.1
  intro d
  induction d with
  | zero =>
    intro i n hi hn
    obtain ⟨n, rfl⟩ : ∃ z, n = z + 1 := ⟨n - 1, by omega⟩
    obtain rfl : i = cD s := by omega
    rw [fX7_doughsWithoutRound_c4_s, a12, if_pos (nI_le (Nat.le_refl _) (by omega))]
    rfl
  | succ d ih =>
    intro i n hi hn
    obtain ⟨n, rfl⟩ : ∃ z, n = z + 1 := ⟨n - 1, by omega⟩
    have ih := ih (i + 1) n (by omega) (by omega)
    have es : s32 (fun k => if plF s k ≤ plL s k ∧ plR s k = -1 then (1 : Int32) else 0) (i + 1) = s32 (fun k => if plF s k ≤ plL s k ∧ plR s k = -1 then (1 : Int32) else 0) i + (if plF s i ≤ plL s i ∧ plR s i = -1 then 1 else 0) := rfl
    rw [es] at ih
    rw [fX7_doughsWithoutRound_c4_s, a12, if_neg (nI_ge (by omega) (by omega)), X_isInPlan hP (by omega) hcD, xc2_t, x_i10]
    by_cases g : plF s i ≤ plL s i
    · rw [if_pos g, xr_n (by omega) (by decide), hP.2 i (by omega)]
      by_cases g2 : plR s i = -1
      · rw [if_pos (show plF s i ≤ plL s i ∧ plR s i = -1 from ⟨g, g2⟩)] at ih
        rw [if_pos g2, xl_t, xl_t, nI_1]; exact ih
      · rw [if_neg (show ¬ (plF s i ≤ plL s i ∧ plR s i = -1) from fun h9 => g2 h9.2), Int32.add_zero] at ih
        rw [if_neg g2, xl_t, nI_1]; exact ih
    · rw [if_neg (show ¬ (plF s i ≤ plL s i ∧ plR s i = -1) from fun h9 => g h9.1), Int32.add_zero] at ih
      rw [if_neg g, xl_t, nI_1]; exact ih
def sp_planned (p0 : Int32) (a : xA) : xO × xA := if 0 ≤ p0 ∧ p0 ≤ a.2.1 6 - 1 then (.inl (plR a.2.1 p0.toNatClampNeg), a) else (.inr 0, a)
theorem X_planned {N : Nat} {σ : xSt} {H : List sS} {s : sS} {tx : (Nat → Int32) × Nat} (h : RX σ (H, s, tx)) (hI : Inv N s) (p0 : Int32) : XR (fX11_planned p0 σ) (sp_planned p0 (H, s, tx)) := by
  have hc := hI.caps
  unfold fX11_planned sp_planned
  rw [X_needDough h]
  show XR (xct (if 0 ≤ p0 ∧ p0 ≤ s 6 - 1 then _ else _) _) (if 0 ≤ p0 ∧ p0 ≤ s 6 - 1 then _ else _)
  by_cases g1 : 0 ≤ p0 ∧ p0 ≤ s 6 - 1
  · rw [if_pos g1, if_pos g1, xct_l]
    obtain ⟨k, hk, rfl⟩ := x_cnt hc.2.2.2.2.2.2.1 (by have := hc.2.1; omega) g1
    have hk : k < cD s := hk
    have hcD := hc.2.1
    obtain ⟨σ1, e1, h1, p1, f1⟩ := X_make h hI
    rw [e1, xc_t, xr_n (by omega) (by decide), p1.2 k hk, nI_clamp (by omega)]
    exact ⟨σ1, rfl, h1⟩
  · rw [if_neg g1, if_neg g1, xct_r]
    exact ⟨σ, rfl, h⟩
theorem X_inPlan {N : Nat} {σ : xSt} {H : List sS} {s : sS} {tx : (Nat → Int32) × Nat} (h : RX σ (H, s, tx)) (hI : Inv N s) : XRi (fX11_inPlan σ) (plN s, (H, s, tx)) := by
  obtain ⟨σ1, e1, h1, p1, f1⟩ := X_make h hI
  have hcD := hI.caps.2.1
  unfold fX11_inPlan fX7_doughsInPlan
  rw [e1, xc_t, show fX7_doughsInPlan_c4 xFU 0 0 σ1 = some (plN s, σ1) from X_inPlanLoop h1 hI p1 (cD s) 0 xFU (Nat.zero_add _) (by show cD s < 8192; omega), xc2_t]
  exact ⟨σ1, rfl, h1⟩
theorem X_late {N : Nat} {σ : xSt} {H : List sS} {s : sS} {tx : (Nat → Int32) × Nat} (h : RX σ (H, s, tx)) (hI : Inv N s) : XRi (fX11_late σ) (plW s, (H, s, tx)) := by
  obtain ⟨σ1, e1, h1, p1, f1⟩ := X_make h hI
  have hcD := hI.caps.2.1
  unfold fX11_late fX7_doughsWithoutRound
  rw [e1, xc_t, show fX7_doughsWithoutRound_c4 xFU 0 0 σ1 = some (plW s, σ1) from X_withoutLoop h1 hI p1 (cD s) 0 xFU (Nat.zero_add _) (by show cD s < 8192; omega), xc2_t]
  exact ⟨σ1, rfl, h1⟩
