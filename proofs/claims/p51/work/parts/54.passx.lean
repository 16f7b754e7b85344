/-! ===== PASS: the class's side, and that n ticks come to the same ===== -/
def bq (s : sS) (n k : Nat) : Bool := decide ((s (203 + k)).toInt + 10 ≤ (s 0).toInt + n)
/-- the state behind n ticks -/
def pS (s : sS) (n : Nat) : sS := fun j =>
  if j = 0 then s 0 + nI n
  else if j = 2 then ht s n
  else if 143 ≤ j ∧ j < 143 + cD s then (if s (20 + j) = 0 then s j + nI n * gn s else s j)
  else if 163 ≤ j ∧ j < 163 + cD s ∧ s j = 2 ∧ bq s n (j - 163) = true then 3
  else if 223 ≤ j ∧ j < 247 ∧ (j - 223) % 4 = 0 then s j + s32 (fun k => if (s (163 + k) = 2 ∧ bq s n k = true) ∧ drc s k = (j - 223) / 4 then s (123 + k) else 0) (cD s)
  else s j
theorem pS_at (s : sS) (n : Nat) (hD : cD s ≤ 20) {j : Nat} (h0 : j ≠ 0) (h2 : j ≠ 2) (h3 : ¬ (143 ≤ j ∧ j < 183)) (h4 : ¬ (223 ≤ j ∧ j < 247 ∧ (j - 223) % 4 = 0)) : pS s n j = s j := by
  unfold pS
  rw [if_neg h0, if_neg h2, if_neg (by omega), if_neg (fun h9 => h3 ⟨by omega, by omega⟩), if_neg h4]
theorem pS_st (s : sS) (n : Nat) (hD : cD s ≤ 20) {k : Nat} (hk : k < 20) : pS s n (163 + k) = if k < cD s ∧ s (163 + k) = 2 ∧ bq s n k = true then 3 else s (163 + k) := by
  unfold pS
  rw [if_neg (by omega), if_neg (by omega), if_neg (by omega), show 163 + k - 163 = k by omega]
  by_cases h : k < cD s ∧ s (163 + k) = 2 ∧ bq s n k = true
  · rw [if_pos h, if_pos ⟨by omega, by omega, h.2⟩]
  · rw [if_neg h, if_neg (fun h9 => h ⟨by omega, h9.2.2⟩), if_neg (by omega)]
theorem pS_cD (s : sS) (n : Nat) (hD : cD s ≤ 20) : cD (pS s n) = cD s := by
  unfold cD
  exact congrArg _ (pS_at s n hD (by decide) (by decide) (by omega) (by omega))
theorem pS_0 (s : sS) (hI : ∀ k, k < cD s → s (163 + k) = 2 → (s 0).toInt < (s (203 + k)).toInt + 10) : pS s 0 = s := by
  funext j
  unfold pS
  by_cases h0 : j = 0
  · subst h0; rw [if_pos rfl]; exact Int32.add_zero _
  · rw [if_neg h0]
    by_cases h2 : j = 2
    · subst h2; rw [if_pos rfl]; rfl
    · rw [if_neg h2]
      by_cases h3 : 143 ≤ j ∧ j < 143 + cD s
      · rw [if_pos h3, show nI 0 = 0 from rfl, Int32.zero_mul, Int32.add_zero, ite_self]
      · rw [if_neg h3]
        have nb : ∀ k, k < cD s → ¬ (s (163 + k) = 2 ∧ bq s 0 k = true) := fun k hk h9 => by
          have := of_decide_eq_true h9.2
          have := hI k hk h9.1
          omega
        by_cases h4 : 163 ≤ j ∧ j < 163 + cD s ∧ s j = 2 ∧ bq s 0 (j - 163) = true
        · exfalso
          refine nb (j - 163) (by omega) ⟨?_, h4.2.2.2⟩
          rw [show 163 + (j - 163) = j by omega]
          exact h4.2.2.1
        · rw [if_neg h4]
          by_cases h5 : 223 ≤ j ∧ j < 247 ∧ (j - 223) % 4 = 0
          · rw [if_pos h5]
            have z : ∀ n, n ≤ cD s → s32 (fun k => if (s (163 + k) = 2 ∧ bq s 0 k = true) ∧ drc s k = (j - 223) / 4 then s (123 + k) else 0) n = 0 := by
              intro n
              induction n with
              | zero => intro _; rfl
              | succ n ih =>
                intro hn
                show s32 _ n + (if (s (163 + n) = 2 ∧ bq s 0 n = true) ∧ drc s n = (j - 223) / 4 then s (123 + n) else 0) = 0
                rw [ih (by omega), if_neg (fun h9 => nb n (by omega) h9.1)]
                rfl
            rw [z _ (Nat.le_refl _), Int32.add_zero]
          · rw [if_neg h5]
theorem i32_add {a b : Int32} (h1 : -2147483648 ≤ a.toInt + b.toInt) (h2 : a.toInt + b.toInt < 2147483648) : (a + b).toInt = a.toInt + b.toInt := by
  rw [Int32.toInt_add]
  exact Int.bmod_eq_of_le (by omega) (by omega)
theorem i32_sub {a b : Int32} (h1 : -2147483648 ≤ a.toInt - b.toInt) (h2 : a.toInt - b.toInt < 2147483648) : (a - b).toInt = a.toInt - b.toInt := by
  rw [Int32.toInt_sub]
  exact Int.bmod_eq_of_le (by omega) (by omega)
theorem pS_step (s : sS) (n : Nat) (hD : cD s ≤ 20) (hn : n < 1000) (h0 : bt (s 0) 0 100000) (hw : ∀ k, k < cD s → bt (s (203 + k)) (-1) 100000) : tk (pS s n) = pS s (n + 1) := by
  have eD := pS_cD s n hD
  have t0 : (s 0 + nI n).toInt = (s 0).toInt + n := by
    rw [i32_add, nI_toInt (by omega)]
    · rw [nI_toInt (by omega)]; have := h0.1; omega
    · rw [nI_toInt (by omega)]; have := h0.2; omega
  have p0 : pS s n 0 = s 0 + nI n := by unfold pS; rw [if_pos rfl]
  have p2 : pS s n 2 = ht s n := by unfold pS; rw [if_neg (by decide), if_pos rfl]
  have p3 : pS s n 3 = s 3 := pS_at s n hD (by decide) (by decide) (by omega) (by omega)
  have eg : gn (pS s n) = gn s := by unfold gn; rw [pS_at s n hD (by decide) (by decide) (by omega) (by omega)]
  have k3 : ∀ {j : Nat}, j ≠ 0 → j ≠ 2 → ¬ (143 ≤ j ∧ j < 163) → tk3 (pS s n) j = pS s n j := fun a b c => tk3_at _ a b c (by omega)
  have z0 : tk3 (pS s n) 0 = s 0 + nI (n + 1) := by
    unfold tk3
    rw [upd_ne _ _ (by decide), L1_at _ _ _ (by omega), upd_at, p0, Int32.add_assoc, nI_1]
  have tn : (s 0 + nI (n + 1)).toInt = (s 0).toInt + (n + 1 : Nat) := by
    rw [i32_add, nI_toInt (by omega)]
    · rw [nI_toInt (by omega)]; have := h0.1; omega
    · rw [nI_toInt (by omega)]; have := h0.2; omega
  have cc : ∀ k, k < cD s → (tkC (tk3 (pS s n)) k = true ↔ (s (203 + k)).toInt + 10 = (s 0).toInt + (n + 1 : Nat)) := fun k hk => by
    have := hw k hk
    unfold tkC
    rw [decide_eq_true_iff, z0, k3 (by omega) (by omega) (by omega), pS_at s n hD (by omega) (by omega) (by omega) (by omega), fa_eq, tn, i32_add]
    · rfl
    · show -2147483648 ≤ (s (203 + k)).toInt + 10; have := this.1; omega
    · show (s (203 + k)).toInt + 10 < 2147483648; have := this.2; omega
  have bqs : ∀ k, (bq s (n + 1) k = true ↔ (bq s n k = true ∨ (s (203 + k)).toInt + 10 = (s 0).toInt + (n + 1 : Nat))) := fun k => by
    unfold bq
    rw [decide_eq_true_iff, decide_eq_true_iff]
    omega
  -- a dough comes out at this tick
  have out : ∀ k, k < cD s → ((tk3 (pS s n) (163 + k) = 2 ∧ tkC (tk3 (pS s n)) k = true) ↔ (s (163 + k) = 2 ∧ ¬ bq s n k = true ∧ (s (203 + k)).toInt + 10 = (s 0).toInt + (n + 1 : Nat))) := fun k hk => by
    rw [cc k hk, k3 (by omega) (by omega) (by omega), pS_st s n hD (by omega)]
    by_cases h : k < cD s ∧ s (163 + k) = 2 ∧ bq s n k = true
    · rw [if_pos h]
      exact ⟨fun h9 => absurd h9.1 (by decide), fun h9 => absurd h.2.2 h9.2.1⟩
    · rw [if_neg h]
      exact ⟨fun h9 => ⟨h9.1, fun h8 => h ⟨hk, h9.1, h8⟩, h9.2⟩, fun h9 => ⟨h9.1, h9.2.2⟩⟩
  funext j
  unfold tk
  rw [eD]
  by_cases j0 : j = 0
  · subst j0
    rw [L2_at _ _ _ (by omega) (by omega), z0]
    unfold pS; rw [if_pos rfl]
  by_cases j2 : j = 2
  · subst j2
    rw [L2_at _ _ _ (by omega) (by omega)]
    unfold tk3
    rw [upd_at, p2, p3]
    unfold pS; rw [if_neg (by decide), if_pos rfl]
    rfl
  by_cases j3 : 143 ≤ j ∧ j < 163
  · rw [L2_at _ _ _ (by omega) (by omega)]
    unfold tk3
    rw [upd_ne _ _ j2, eD, eg]
    obtain ⟨k, rfl⟩ : ∃ k, j = 143 + k := ⟨j - 143, by omega⟩
    unfold L1
    by_cases hk : k < cD s
    · rw [if_pos (by omega), upd_ne _ _ (by omega), upd_ne _ _ (by omega), show 20 + (143 + k) = 163 + k by omega, pS_st s n hD (by omega)]
      have e1 : pS s n (143 + k) = if s (163 + k) = 0 then s (143 + k) + nI n * gn s else s (143 + k) := by
        unfold pS; rw [if_neg (by omega), if_neg (by omega), if_pos (by omega), show 20 + (143 + k) = 163 + k by omega]
      have e2 : pS s (n + 1) (143 + k) = if s (163 + k) = 0 then s (143 + k) + nI (n + 1) * gn s else s (143 + k) := by
        unfold pS; rw [if_neg (by omega), if_neg (by omega), if_pos (by omega), show 20 + (143 + k) = 163 + k by omega]
      rw [e1, e2]
      by_cases g0 : s (163 + k) = 0
      · rw [if_neg (show ¬ (k < cD s ∧ s (163 + k) = 2 ∧ bq s n k = true) from fun h9 => absurd (g0.symm.trans h9.2.1) (by decide)), if_pos g0, if_pos g0, if_pos g0, Int32.add_assoc]
        congr 1
        rw [← nI_1, Int32.add_mul, Int32.one_mul]
      · rw [if_neg g0, if_neg g0]
        have e9 : ¬ ((if k < cD s ∧ s (163 + k) = 2 ∧ bq s n k = true then (3 : Int32) else s (163 + k)) = 0) := by
          by_cases h : k < cD s ∧ s (163 + k) = 2 ∧ bq s n k = true
          · rw [if_pos h]; decide
          · rw [if_neg h]; exact g0
        rw [if_neg e9, Int32.add_zero]
    · rw [if_neg (by omega), upd_ne _ _ (by omega)]
      unfold pS
      rw [if_neg (by omega), if_neg (by omega), if_neg (by omega), if_neg (by omega), if_neg (by omega), if_neg (by omega), if_neg (by omega), if_neg (by omega), if_neg (by omega), if_neg (by omega)]
  by_cases j4 : 163 ≤ j ∧ j < 183
  · obtain ⟨k, rfl⟩ : ∃ k, j = 163 + k := ⟨j - 163, by omega⟩
    rw [pS_st s (n + 1) hD (by omega)]
    unfold L2
    rw [show 163 + k - 163 = k by omega]
    by_cases hk : k < cD s
    · by_cases ho : tk3 (pS s n) (163 + k) = 2 ∧ tkC (tk3 (pS s n)) k = true
      · rw [if_pos ⟨by omega, by omega, ho⟩]
        have := (out k hk).mp ho
        rw [if_pos ⟨hk, this.1, (bqs k).mpr (Or.inr this.2.2)⟩]
      · rw [if_neg (fun h9 => ho h9.2.2), if_neg (by omega), k3 (by omega) (by omega) (by omega), pS_st s n hD (by omega)]
        by_cases h : k < cD s ∧ s (163 + k) = 2 ∧ bq s n k = true
        · rw [if_pos h, if_pos ⟨hk, h.2.1, (bqs k).mpr (Or.inl h.2.2)⟩]
        · rw [if_neg h, if_neg (fun h9 => ?_)]
          rcases (bqs k).mp h9.2.2 with h8 | h8
          · exact h ⟨hk, h9.2.1, h8⟩
          · exact ho ((out k hk).mpr ⟨h9.2.1, fun h7 => h ⟨hk, h9.2.1, h7⟩, h8⟩)
    · rw [if_neg (by omega), if_neg (by omega), k3 (by omega) (by omega) (by omega), pS_st s n hD (by omega), if_neg (fun h9 => hk h9.1), if_neg (fun h9 => hk h9.1)]
  by_cases j5 : 223 ≤ j ∧ j < 247 ∧ (j - 223) % 4 = 0
  · unfold L2
    rw [if_neg (by omega), if_pos j5, k3 j0 j2 (by omega)]
    have e1 : pS s n j = s j + s32 (fun k => if (s (163 + k) = 2 ∧ bq s n k = true) ∧ drc s k = (j - 223) / 4 then s (123 + k) else 0) (cD s) := by
      unfold pS; rw [if_neg j0, if_neg j2, if_neg (by omega), if_neg (by omega), if_pos j5]
    have e2 : pS s (n + 1) j = s j + s32 (fun k => if (s (163 + k) = 2 ∧ bq s (n + 1) k = true) ∧ drc s k = (j - 223) / 4 then s (123 + k) else 0) (cD s) := by
      unfold pS; rw [if_neg j0, if_neg j2, if_neg (by omega), if_neg (by omega), if_pos j5]
    rw [e1, e2, Int32.add_assoc, s32_add]
    congr 1
    refine s32_congr (fun k hk => ?_)
    have er : drc (tk3 (pS s n)) k = drc s k := by
      unfold drc
      rw [k3 (by omega) (by omega) (by omega), pS_at s n hD (by omega) (by omega) (by omega) (by omega)]
    have ep : tk3 (pS s n) (123 + k) = s (123 + k) := by rw [k3 (by omega) (by omega) (by omega), pS_at s n hD (by omega) (by omega) (by omega) (by omega)]
    rw [er, ep]
    by_cases hr : drc s k = (j - 223) / 4
    · by_cases a1 : s (163 + k) = 2 ∧ bq s n k = true
      · rw [if_pos ⟨a1, hr⟩, if_neg (fun h9 => ((out k hk).mp h9.1).2.1 a1.2), if_pos ⟨⟨a1.1, (bqs k).mpr (Or.inl a1.2)⟩, hr⟩, Int32.add_zero]
      · rw [if_neg (fun h9 => a1 h9.1), Int32.zero_add]
        by_cases a2 : tk3 (pS s n) (163 + k) = 2 ∧ tkC (tk3 (pS s n)) k = true
        · have := (out k hk).mp a2
          rw [if_pos ⟨a2, hr⟩, if_pos ⟨⟨this.1, (bqs k).mpr (Or.inr this.2.2)⟩, hr⟩]
        · rw [if_neg (fun h9 => a2 h9.1), if_neg (fun h9 => ?_)]
          rcases (bqs k).mp h9.1.2 with h8 | h8
          · exact a1 ⟨h9.1.1, h8⟩
          · exact a2 ((out k hk).mpr ⟨h9.1.1, fun h7 => a1 ⟨h9.1.1, h7⟩, h8⟩)
    · rw [if_neg (fun h9 => hr h9.2), if_neg (fun h9 => hr h9.2), if_neg (fun h9 => hr h9.2)]
      rfl
  · rw [L2_at _ _ _ (by omega) j5, k3 j0 j2 (by omega), pS_at s n hD j0 j2 (by omega) j5, pS_at s (n + 1) hD j0 j2 (by omega) j5]
theorem tkN_pS {N : Nat} {s : sS} (hI : Inv N s) : ∀ n, n ≤ 200 → tkN s n = pS s n
  | 0, _ => (pS_0 s (fun k hk h2 => ((hI.dough k hk).2.2.2.2.2 h2).2)).symm
  | n + 1, hn => by
    show tk (tkN s n) = _
    rw [tkN_pS hI n (by omega)]
    exact pS_step s n hI.caps.2.1 (by omega) hI.oven.1 (fun k hk => ⟨(hI.dough k hk).2.2.2.2.1.1, Int.le_trans (hI.dough k hk).2.2.2.2.1.2 hI.oven.1.2⟩)
/-! the heat at once -/
theorem ht_int {s : sS} (h2 : bt (s 2) 20 320) (h3 : bt (s 3) 20 320) : ∀ n : Nat, (ht s n).toInt = (s 2).toInt + (if (s 3).toInt - (s 2).toInt ≤ 5 * n then (if -(5 * (n : Int)) ≤ (s 3).toInt - (s 2).toInt then (s 3).toInt - (s 2).toInt else -(5 * (n : Int))) else 5 * n)
  | 0 => by
    show (s 2).toInt = _
    split
    · split <;> omega
    · omega
  | n + 1 => by
    have ih := ht_int h2 h3 n
    obtain ⟨a1, a2⟩ := h2
    obtain ⟨b1, b2⟩ := h3
    show (ht s n + clp (s 3 - ht s n)).toInt = _
    have hb : 20 ≤ (ht s n).toInt ∧ (ht s n).toInt ≤ 320 := by
      rw [ih]
      split
      · split <;> omega
      · omega
    have e1 : (s 3 - ht s n).toInt = (s 3).toInt - (ht s n).toInt := i32_sub (by omega) (by omega)
    have e2 : (clp (s 3 - ht s n)).toInt = if (s 3).toInt - (ht s n).toInt ≤ 5 then (if -5 ≤ (s 3).toInt - (ht s n).toInt then (s 3).toInt - (ht s n).toInt else -5) else 5 := by
      unfold clp
      by_cases g1 : s 3 - ht s n ≤ 5
      · rw [if_pos g1]
        rw [fa_le, e1, show (5 : Int32).toInt = 5 from rfl] at g1
        rw [if_pos g1]
        by_cases g2 : (-5) ≤ s 3 - ht s n
        · rw [if_pos g2]
          rw [fa_le, e1, show (-5 : Int32).toInt = -5 from by decide] at g2
          rw [if_pos g2, e1]
        · rw [if_neg g2]
          rw [fa_le, e1, show (-5 : Int32).toInt = -5 from by decide] at g2
          rw [if_neg g2]
          decide
      · rw [if_neg g1]
        rw [fa_le, e1, show (5 : Int32).toInt = 5 from rfl] at g1
        rw [if_neg g1]
        rfl
    rw [i32_add, e2, ih]
    · push_cast
      split <;> split <;> (try split) <;> (try split) <;> (try split) <;> omega
    · rw [e2]; split <;> (try split) <;> omega
    · rw [e2]; split <;> (try split) <;> omega
theorem X_heatAll {s : sS} (h2 : bt (s 2) 20 320) (h3 : bt (s 3) 20 320) {n : Nat} (h1 : 1 ≤ n) (hn : n ≤ 200) (v3 v4 : Int32) (e3 : v3 = if s 3 - s 2 < nI (5 * n) then s 3 - s 2 else nI (5 * n)) (e4 : v4 = if -(nI (5 * n)) < v3 then v3 else -(nI (5 * n))) : s 2 + v4 = ht s n := by
  rw [fa_eq, ht_int h2 h3 n]
  obtain ⟨a1, a2⟩ := h2
  obtain ⟨b1, b2⟩ := h3
  have e1 : (s 3 - s 2).toInt = (s 3).toInt - (s 2).toInt := i32_sub (by omega) (by omega)
  have m1 : (nI (5 * n)).toInt = 5 * n := by rw [nI_toInt (by omega)]; push_cast; rfl
  have m2 : (-(nI (5 * n))).toInt = -(5 * (n : Int)) := by
    rw [Int32.toInt_neg, m1]
    exact Int.bmod_eq_of_le (by omega) (by omega)
  have f3 : v3.toInt = if (s 3).toInt - (s 2).toInt < 5 * n then (s 3).toInt - (s 2).toInt else 5 * n := by
    rw [e3]
    by_cases g : s 3 - s 2 < nI (5 * n)
    · rw [if_pos g]; rw [fa_lt, e1, m1] at g; rw [if_pos g, e1]
    · rw [if_neg g]; rw [fa_lt, e1, m1] at g; rw [if_neg g, m1]
  have f4 : v4.toInt = if -(5 * (n : Int)) < v3.toInt then v3.toInt else -(5 * (n : Int)) := by
    rw [e4]
    by_cases g : -(nI (5 * n)) < v3
    · rw [if_pos g]; rw [fa_lt, m2] at g; rw [if_pos g]
    · rw [if_neg g]; rw [fa_lt, m2] at g; rw [if_neg g, m2]
  have f5 : v4.toInt = (if (s 3).toInt - (s 2).toInt ≤ 5 * n then (if -(5 * (n : Int)) ≤ (s 3).toInt - (s 2).toInt then (s 3).toInt - (s 2).toInt else -(5 * (n : Int))) else 5 * n) := by
    rw [f4, f3]
    split <;> split <;> (try split) <;> (try split) <;> omega
  rw [i32_add, f5]
  · rw [f5]; split <;> (try split) <;> omega
  · rw [f5]; split <;> (try split) <;> omega
/-! the class's doughs rise and come out -/
def R1 (s : sS) (p : Int32) (i : Nat) : sS := fun j => if 143 ≤ j ∧ j < 143 + i ∧ s (20 + j) = 0 then s j + p else s j
theorem R1_step (s : sS) (p : Int32) (i : Nat) : R1 s p (i + 1) = if s (163 + i) = 0 then upd (R1 s p i) (143 + i) (s (143 + i) + p) else R1 s p i := by
  funext j
  by_cases g : s (163 + i) = 0
  · rw [if_pos g]
    unfold upd
    by_cases e : j = 143 + i
    · subst e
      unfold R1
      rw [if_pos ⟨by omega, by omega, by rw [show 20 + (143 + i) = 163 + i by omega]; exact g⟩, if_pos rfl]
    · rw [if_neg e]
      unfold R1
      by_cases h : 143 ≤ j ∧ j < 143 + i ∧ s (20 + j) = 0
      · rw [if_pos h, if_pos ⟨h.1, by omega, h.2.2⟩]
      · rw [if_neg h, if_neg (fun h9 => h ⟨h9.1, by omega, h9.2.2⟩)]
  · rw [if_neg g]
    unfold R1
    by_cases h : 143 ≤ j ∧ j < 143 + i ∧ s (20 + j) = 0
    · rw [if_pos h, if_pos ⟨h.1, by omega, h.2.2⟩]
    · rw [if_neg h, if_neg (fun h9 => ?_)]
      by_cases e : j = 143 + i
      · subst e
        rw [show 20 + (143 + i) = 163 + i by omega] at h9
        exact g h9.2.2
      · exact h ⟨h9.1, by omega, h9.2.2⟩
theorem R1_at (s : sS) (p : Int32) (i : Nat) {j : Nat} (h : ¬ (143 ≤ j ∧ j < 143 + i)) : R1 s p i j = s j := by
  unfold R1
  rw [if_neg (fun h9 => h ⟨h9.1, h9.2.1⟩)]
theorem R1_0 (s : sS) (p : Int32) : R1 s p 0 = s := by
  funext j
  exact R1_at s p 0 (by omega)
theorem X_rise {H : List sS} {s : sS} {tx : (Nat → Int32) × Nat} (hc : caps s) (p : Int32) : ∀ (d i n : Nat) (σ : xSt), i + d = cD s → d < n → RX σ (H, R1 s p i, tx) → ∃ σ', fX2_rise_c2 n p (nI i) σ = some σ' ∧ RX σ' (H, R1 s p (cD s), tx) := by
  have hcD := hc.2.1
  have cR1 : ∀ i, i ≤ 20 → caps (R1 s p i) := fun i hi => caps_congr hc (R1_at _ _ _ (by omega)) (R1_at _ _ _ (by omega)) (R1_at _ _ _ (by omega)) (fun j _ _ => R1_at _ _ _ (by omega)) (fun j _ _ => R1_at _ _ _ (by omega))
  intro d
  induction d with
  | zero =>
    intro i n σ hi hn h
    obtain ⟨n, rfl⟩ : ∃ z, n = z + 1 := ⟨n - 1, by omega⟩
    obtain rfl : i = cD s := by omega
    have a1 : σ 12 7 = nI (cD s) := (X_at_ndough h).trans ((R1_at s p (cD s) (by omega)).trans hc.2.2.2.2.2.2.1)
    rw [fX2_rise_c2_s, a1, if_pos (nI_le (Nat.le_refl _) (by omega))]
    exact ⟨σ, rfl, h⟩
  | succ d ih =>
    intro i n σ hi hn h
    obtain ⟨n, rfl⟩ : ∃ z, n = z + 1 := ⟨n - 1, by omega⟩
    have a1 : σ 12 7 = nI (cD s) := (X_at_ndough h).trans ((R1_at s p i (by omega)).trans hc.2.2.2.2.2.2.1)
    have a2 : σ 17 i = s (163 + i) := (X_at_state h (by omega)).trans (R1_at s p i (by omega))
    have a3 : σ 16 i = s (143 + i) := (X_at_points h (by omega)).trans (R1_at s p i (by omega))
    have es := R1_step s p i
    rw [fX2_rise_c2_s, a1, if_neg (nI_ge (by omega) (by omega)), xr_n (by omega) (by decide), a2]
    by_cases g : s (163 + i) = 0
    · rw [if_pos g] at es ⊢
      have h2 := X_set_points h (cR1 i (by omega)) (show i < 20 by omega) (s (143 + i) + p)
      rw [← es] at h2
      obtain ⟨σ', e, h3⟩ := ih (i + 1) n _ (by omega) (by omega) h2
      refine ⟨σ', ?_, h3⟩
      rw [xr_n (by omega) (by decide), a3, xs_n (by omega) (by decide), xl_t, nI_1]
      exact e
    · rw [if_neg g] at es ⊢
      rw [← es] at h
      rw [xl_t, nI_1]
      exact ih (i + 1) n σ (by omega) (by omega) h
def cxC (s : sS) (k : Nat) : Bool := decide (¬ s 0 < s (203 + k) + 10)
theorem X_out {H : List sS} {s : sS} {tx : (Nat → Int32) × Nat} (hc : caps s) (hd : ∀ k, k < cD s → s (103 + k) = nI (drc s k)) : ∀ (d i n : Nat) (σ : xSt), i + d = cD s → d < n → RX σ (H, L2 s (cxC s) i, tx) → ∃ σ', fX11_takeOutOfOven_c2 n (nI i) σ = some σ' ∧ RX σ' (H, L2 s (cxC s) (cD s), tx) := by
  have hcD := hc.2.1
  have hcR := hc.1
  have cL : ∀ i, i ≤ 20 → caps (L2 s (cxC s) i) := fun i hi => caps_congr hc (L2_at _ _ _ (by omega) (by omega)) (L2_at _ _ _ (by omega) (by omega)) (L2_at _ _ _ (by omega) (by omega)) (fun j _ _ => L2_at _ _ _ (by omega) (by omega)) (fun j _ _ => L2_at _ _ _ (by omega) (by omega))
  intro d
  induction d with
  | zero =>
    intro i n σ hi hn h
    obtain ⟨n, rfl⟩ : ∃ z, n = z + 1 := ⟨n - 1, by omega⟩
    obtain rfl : i = cD s := by omega
    have a1 : σ 12 7 = nI (cD s) := (X_at_ndough h).trans ((L2_at s (cxC s) (cD s) (by omega) (by omega)).trans hc.2.2.2.2.2.2.1)
    rw [fX11_takeOutOfOven_c2_s, a1, if_pos (nI_le (Nat.le_refl _) (by omega))]
    exact ⟨σ, rfl, h⟩
  | succ d ih =>
    intro i n σ hi hn h
    obtain ⟨n, rfl⟩ : ∃ z, n = z + 1 := ⟨n - 1, by omega⟩
    have hr := drc_lt hc (show i < cD s by omega)
    have eDi : cD (L2 s (cxC s) i) = cD s := congrArg Int32.toNatClampNeg (L2_at s (cxC s) i (j := 6) (by omega) (by omega))
    have a1 : σ 12 7 = nI (cD s) := (X_at_ndough h).trans ((L2_at s (cxC s) i (by omega) (by omega)).trans hc.2.2.2.2.2.2.1)
    have a2 : σ 17 i = s (163 + i) := (X_at_state h (k := i) (by omega)).trans (L2_at s (cxC s) i (j := 163 + i) (by omega) (by omega))
    have a3 : σ 19 i = s (203 + i) := (X_at_went h (k := i) (by omega)).trans (L2_at s (cxC s) i (j := 203 + i) (by omega) (by omega))
    have a4 : σ 20 0 = s 0 := (X_at_tick h).trans (L2_at s (cxC s) i (j := 0) (by omega) (by omega))
    rw [fX11_takeOutOfOven_c2_s, a1, if_neg (nI_ge (by omega) (by omega)), xr_n (by omega) (by decide), a2]
    by_cases g1 : s (163 + i) = 2
    · rw [if_pos g1, xr_n (by omega) (by decide), a3, a4]
      by_cases g2 : s 0 < s (203 + i) + 10
      · rw [if_pos g2, xl_t, nI_1]
        rw [← L2_no s (cxC s) i (fun h9 => (of_decide_eq_true h9.2) g2)] at h
        exact ih (i + 1) n σ (by omega) (by omega) h
      · have hy : s (163 + i) = 2 ∧ cxC s i = true := ⟨g1, decide_eq_true g2⟩
        rw [if_neg g2, xs_n (by omega) (by decide)]
        have h2 := X_set_state h (cL i (by omega)) (show i < 20 by omega) 3
        have c2 : caps (upd (L2 s (cxC s) i) (163 + i) 3) := (cL i (by omega)).upd (by omega) _
        have b1 : xu σ 17 i 3 13 i = nI (drc s i) := by
          refine (X_at_drec h2 (k := i) ?_).trans ((upd_ne _ _ (by omega)).trans ((L2_at s (cxC s) i (by omega) (by omega)).trans (hd i (by omega))))
          show i < cD (upd _ _ _)
          rw [cD_ne _ _ (by omega), eDi]; omega
        have b2 : xu σ 17 i 3 28 (4 * drc s i) = L2 s (cxC s) i (223 + 4 * drc s i) := (X_at_breads h2 (by omega)).trans (upd_ne _ _ (by omega))
        have b3 : xu σ 17 i 3 14 i = s (123 + i) := by
          refine (X_at_dpieces h2 (k := i) ?_).trans ((upd_ne _ _ (by omega)).trans (L2_at s (cxC s) i (by omega) (by omega)))
          show i < cD (upd _ _ _)
          rw [cD_ne _ _ (by omega), eDi]; omega
        have h3 := X_set_breads h2 c2 (show 4 * drc s i < 24 by omega) (L2 s (cxC s) i (223 + 4 * drc s i) + s (123 + i))
        rw [← L2_yes s (cxC s) i (by omega) (by omega) hy] at h3
        obtain ⟨σ', e, h4⟩ := ih (i + 1) n _ (by omega) (by omega) h3
        refine ⟨σ', ?_, h4⟩
        rw [xr_n (by omega) (by decide), b1, show (4 : Int32) = nI 4 from rfl, nI_mul, Nat.mul_comm _ 4, xl_t, xr_n (by omega) (by decide), b2, xr_n (by omega) (by decide), b3, xs_n (by omega) (by decide), xl_t, nI_1]
        exact e
    · rw [if_neg g1, xl_t, nI_1]
      rw [← L2_no s (cxC s) i (fun h9 => g1 h9.1)] at h
      exact ih (i + 1) n σ (by omega) (by omega) h
theorem X_gain {σ : xSt} {H : List sS} {s : sS} {tx : (Nat → Int32) × Nat} (h : RX σ (H, s, tx)) (hw : bt (s 1) 0 5) : fX5_pointsOfATick σ = some (gn s, σ) := by
  have e := bt_nI hw (by decide)
  have hb := bt_cl hw (by decide)
  have a1 : σ 20 1 = nI (s 1).toNatClampNeg := (X_at_warmth h).trans e
  unfold fX5_pointsOfATick gn
  rw [X_isWithin, a1, xc2_t, if_pos (show (0 : Int32) ≤ nI (s 1).toNatClampNeg ∧ nI (s 1).toNatClampNeg ≤ 6 - 1 from ⟨nI_pos' (by omega), nI_le (a := (s 1).toNatClampNeg) (b := 5) (by omega) (by decide)⟩), if_neg (by decide), a1]
  rcases (show (s 1).toNatClampNeg = 0 ∨ (s 1).toNatClampNeg = 1 ∨ (s 1).toNatClampNeg = 2 ∨ (s 1).toNatClampNeg = 3 ∨ (s 1).toNatClampNeg = 4 ∨ (s 1).toNatClampNeg = 5 by omega) with z | z | z | z | z | z <;> rw [z] <;> rfl
theorem R1_pS {N : Nat} {s : sS} (hI : Inv N s) {n : Nat} (hn : n ≤ 200) : L2 (R1 (upd (upd s 0 (s 0 + nI n)) 2 (ht s n)) (nI n * gn s) (cD s)) (cxC (R1 (upd (upd s 0 (s 0 + nI n)) 2 (ht s n)) (nI n * gn s) (cD s))) (cD s) = pS s n := by
  have hcD : cD s ≤ 20 := hI.caps.2.1
  have h0 := hI.oven.1
  have tn : (s 0 + nI n).toInt = (s 0).toInt + n := by
    rw [i32_add, nI_toInt (by omega)]
    · rw [nI_toInt (by omega)]; have := h0.1; omega
    · rw [nI_toInt (by omega)]; have := h0.2; omega
  have k1 : ∀ {j : Nat}, j ≠ 0 → j ≠ 2 → upd (upd s 0 (s 0 + nI n)) 2 (ht s n) j = s j := fun a b => (upd_ne _ _ b).trans (upd_ne _ _ a)
  have kR : ∀ {j : Nat}, j ≠ 0 → j ≠ 2 → ¬ (143 ≤ j ∧ j < 143 + cD s) → R1 (upd (upd s 0 (s 0 + nI n)) 2 (ht s n)) (nI n * gn s) (cD s) j = s j := fun a b c => (R1_at _ _ _ c).trans (k1 a b)
  have r0 : R1 (upd (upd s 0 (s 0 + nI n)) 2 (ht s n)) (nI n * gn s) (cD s) 0 = s 0 + nI n := (R1_at _ _ _ (by omega)).trans ((upd_ne _ _ (by decide)).trans (upd_at _ _ _))
  have r2 : R1 (upd (upd s 0 (s 0 + nI n)) 2 (ht s n)) (nI n * gn s) (cD s) 2 = ht s n := (R1_at _ _ _ (by omega)).trans (upd_at _ _ _)
  have cq : ∀ k, k < cD s → cxC (R1 (upd (upd s 0 (s 0 + nI n)) 2 (ht s n)) (nI n * gn s) (cD s)) k = bq s n k := fun k hk => by
    have hw := (hI.dough k hk).2.2.2.2.1
    unfold cxC bq
    rw [r0, kR (by omega) (by omega) (by omega), decide_eq_decide, fa_lt, tn, i32_add]
    · show ¬ (s 0).toInt + ↑n < (s (203 + k)).toInt + 10 ↔ _
      omega
    · show -2147483648 ≤ (s (203 + k)).toInt + 10; have := hw.1; omega
    · show (s (203 + k)).toInt + 10 < 2147483648; have := hw.2; have := h0.2; omega
  funext j
  unfold L2 pS
  by_cases j0 : j = 0
  · subst j0
    rw [if_neg (show ¬ (163 ≤ 0 ∧ _) from fun h9 => absurd h9.1 (by decide)), if_neg (show ¬ (223 ≤ 0 ∧ _) from fun h9 => absurd h9.1 (by decide)), if_pos rfl, r0]
  rw [if_neg j0]
  by_cases j2 : j = 2
  · subst j2
    rw [if_neg (show ¬ (163 ≤ 2 ∧ _) from fun h9 => absurd h9.1 (by decide)), if_neg (show ¬ (223 ≤ 2 ∧ _) from fun h9 => absurd h9.1 (by decide)), if_pos rfl, r2]
  rw [if_neg j2]
  by_cases j3 : 143 ≤ j ∧ j < 143 + cD s
  · rw [if_pos j3, if_neg (show ¬ (163 ≤ j ∧ _) from fun h9 => by have := h9.1; omega), if_neg (show ¬ (223 ≤ j ∧ _) from fun h9 => by have := h9.1; omega)]
    unfold R1
    rw [k1 (show 20 + j ≠ 0 by omega) (show 20 + j ≠ 2 by omega), k1 j0 j2]
    by_cases g : s (20 + j) = 0
    · rw [if_pos ⟨j3.1, j3.2, g⟩, if_pos g]
    · rw [if_neg (fun h9 => g h9.2.2), if_neg g]
  rw [if_neg j3, kR j0 j2 j3]
  by_cases j4 : 163 ≤ j ∧ j < 163 + cD s ∧ s j = 2 ∧ bq s n (j - 163) = true
  · rw [if_pos j4, if_pos ⟨j4.1, j4.2.1, j4.2.2.1, (cq (j - 163) (by omega)).trans j4.2.2.2⟩]
  rw [if_neg j4, if_neg (fun h9 => j4 ⟨h9.1, h9.2.1, h9.2.2.1, (cq (j - 163) (by omega)).symm.trans h9.2.2.2⟩)]
  by_cases j5 : 223 ≤ j ∧ j < 247 ∧ (j - 223) % 4 = 0
  · rw [if_pos j5, if_pos j5]
    congr 1
    refine s32_congr (fun k hk => ?_)
    have er : drc (R1 (upd (upd s 0 (s 0 + nI n)) 2 (ht s n)) (nI n * gn s) (cD s)) k = drc s k := congrArg Int32.toNatClampNeg (kR (j := 103 + k) (by omega) (by omega) (by omega))
    rw [er, cq k hk, kR (j := 163 + k) (by omega) (by omega) (by omega), kR (j := 123 + k) (by omega) (by omega) (by omega)]
  · rw [if_neg j5, if_neg j5]
theorem X_pass {N : Nat} {σ : xSt} {H : List sS} {s : sS} {tx : (Nat → Int32) × Nat} (h : RX σ (H, s, tx)) (hI : Inv N s) (p0 : Int32) :
    (¬ (1 ≤ p0 ∧ p0 ≤ 200) → XR (fX11_pass p0 σ) (.inr 1, (H, s, tx))) ∧ ∀ n, 1 ≤ n → n ≤ 200 → p0 = nI n → (100000 < s 0 + p0 → XR (fX11_pass p0 σ) (.inr 2, (H, s, tx))) ∧ (¬ 100000 < s 0 + p0 → XR (fX11_pass p0 σ) (.inl (tkN s n 0), (kp H s, tkN s n, tx))) := by
  have hc := hI.caps
  have hcD := hc.2.1
  unfold fX11_pass
  rw [X_isWithin, xc2_t]
  refine ⟨fun g1 => ?_, fun n h1 h2 e => ?_⟩
  · rw [if_neg g1, X_needArgument0, xct_r]; exact ⟨σ, rfl, h⟩
  · subst e
    have g1 : (1 : Int32) ≤ nI n ∧ nI n ≤ 200 := ⟨nI_le (a := 1) (b := n) h1 (by omega), nI_le (a := n) (b := 200) h2 (by decide)⟩
    rw [if_pos g1, X_needArgument1, xct_l, X_at_tick h]
    refine ⟨fun g2 => ?_, fun g2 => ?_⟩
    · have g3 : 100000 < s 0 + nI n := g2
      show XR (if 100000 < s 0 + nI n then _ else _) _
      rw [if_pos g3]
      unfold fX11_pass_c30
      rw [X_needState0, xct_r]; exact ⟨σ, rfl, h⟩
    · show XR (if 100000 < s 0 + nI n then _ else _) _
      rw [if_neg g2]
      unfold fX11_pass_c30
      rw [X_needState1, xct_l]
      obtain ⟨σ1, e1, h3, -⟩ := X_remember h
      rw [e1, xc_t]
      have b0 : σ1 20 0 = s 0 := X_at_tick h3
      have h4 := X_set_tick h3 hc (s 0 + nI n)
      have c4 : caps (upd s 0 (s 0 + nI n)) := hc.upd (by omega) _
      have b3 : xu σ1 20 0 (s 0 + nI n) 20 3 = s 2 := (X_at_heat h4).trans (upd_ne s (s 0 + nI n) (show 2 ≠ 0 by decide))
      have b4 : xu σ1 20 0 (s 0 + nI n) 20 4 = s 3 := (X_at_setHeat h4).trans (upd_ne s (s 0 + nI n) (show 3 ≠ 0 by decide))
      have m5 : nI n * 5 = nI (5 * n) := by rw [show (5 : Int32) = nI 5 from rfl, nI_mul, Nat.mul_comm]
      have eh := X_heatAll hI.oven.2.2.1 hI.oven.2.2.2.1 h1 h2 _ _ rfl rfl
      have h5 := X_set_heat h4 c4 (ht s n)
      have c5 : caps (upd (upd s 0 (s 0 + nI n)) 2 (ht s n)) := c4.upd (by omega) _
      have eD : cD (upd (upd s 0 (s 0 + nI n)) 2 (ht s n)) = cD s := congrArg Int32.toNatClampNeg ((upd_ne (upd s 0 (s 0 + nI n)) (ht s n) (show 6 ≠ 2 by decide)).trans (upd_ne s (s 0 + nI n) (show 6 ≠ 0 by decide)))
      have ew : upd (upd s 0 (s 0 + nI n)) 2 (ht s n) 1 = s 1 := (upd_ne (upd s 0 (s 0 + nI n)) (ht s n) (show 1 ≠ 2 by decide)).trans (upd_ne s (s 0 + nI n) (show 1 ≠ 0 by decide))
      have eg : gn (upd (upd s 0 (s 0 + nI n)) 2 (ht s n)) = gn s := congrArg (fun v : Int32 => xPts v.toNatClampNeg) ew
      unfold fX5_letPass
      rw [b0, xp_t, xl_t, m5, b3, b4, xl_t, xl_t, xp_t, eh, xc_t, X_gain h5 (by rw [ew]; exact hI.oven.2.1), xc2_t, eg]
      unfold fX2_rise
      have h6 : RX (xu (xu σ1 20 0 (s 0 + nI n)) 20 3 (ht s n)) (kp H s, R1 (upd (upd s 0 (s 0 + nI n)) 2 (ht s n)) (nI n * gn s) 0, tx) := by rw [R1_0]; exact h5
      obtain ⟨σ2, e2, h7⟩ := X_rise c5 (nI n * gn s) (cD s) 0 xFU _ (by rw [eD, Nat.zero_add]) (by show cD s < 8192; omega) h6
      rw [show (0 : Int32) = nI 0 from rfl, e2, xc_t]
      rw [eD] at h7
      have kR : ∀ {j : Nat}, j ≠ 0 → j ≠ 2 → ¬ (143 ≤ j ∧ j < 143 + cD s) → R1 (upd (upd s 0 (s 0 + nI n)) 2 (ht s n)) (nI n * gn s) (cD s) j = s j := fun a b c => (R1_at _ _ _ c).trans ((upd_ne _ _ b).trans (upd_ne _ _ a))
      have c6 : caps (R1 (upd (upd s 0 (s 0 + nI n)) 2 (ht s n)) (nI n * gn s) (cD s)) := caps_congr hc (kR (by decide) (by decide) (by omega)) (kR (by decide) (by decide) (by omega)) (kR (by decide) (by decide) (by omega)) (fun j _ _ => kR (by omega) (by omega) (by omega)) (fun j _ _ => kR (by omega) (by omega) (by omega))
      have eD6 : cD (R1 (upd (upd s 0 (s 0 + nI n)) 2 (ht s n)) (nI n * gn s) (cD s)) = cD s := congrArg Int32.toNatClampNeg (kR (j := 6) (by decide) (by decide) (by omega))
      have h8 : RX σ2 (kp H s, L2 (R1 (upd (upd s 0 (s 0 + nI n)) 2 (ht s n)) (nI n * gn s) (cD s)) (cxC (R1 (upd (upd s 0 (s 0 + nI n)) 2 (ht s n)) (nI n * gn s) (cD s))) 0, tx) := by rw [L2_0]; exact h7
      unfold fX11_takeOutOfOven
      obtain ⟨σ3, e3, h9⟩ := X_out c6 (fun k hk => by
        rw [eD6] at hk
        unfold drc
        rw [kR (by omega) (by omega) (by omega)]
        exact drc_eq hI hk) (cD s) 0 xFU σ2 (by rw [eD6, Nat.zero_add]) (by show cD s < 8192; omega) h8
      rw [show (0 : Int32) = nI 0 from rfl, e3, xc_t]
      rw [eD6, R1_pS hI h2, ← tkN_pS hI n h2] at h9
      have a9 : σ3 20 0 = tkN s n 0 := X_at_tick h9
      rw [a9]
      exact ⟨σ3, rfl, h9⟩
