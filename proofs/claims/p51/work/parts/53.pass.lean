/-! ===== PASS: the model tick by tick, the class at once ===== -/
theorem caps_congr {s s' : sS} (hc : caps s) (h5 : s' 5 = s 5) (h6 : s' 6 = s 6) (h7 : s' 7 = s 7) (h1 : ∀ j, 103 ≤ j → j < 123 → s' j = s j) (h2 : ∀ j, 259 ≤ j → j < 265 → s' j = s j) : caps s' := by
  obtain ⟨a1, a2, a3, a4, a5, a6, a7, a8, a9⟩ := hc
  have eR : cR s' = cR s := by unfold cR; rw [h5]
  have eD : cD s' = cD s := by unfold cD; rw [h6]
  have eS : cS s' = cS s := by unfold cS; rw [h7]
  have eN : ∀ r, r < 6 → cN s' r = cN s r := fun r hr => by unfold cN; rw [h2 _ (by omega) (by omega)]
  unfold caps
  rw [eR, eD, eS, h5, h6, h7]
  exact ⟨a1, a2, a3, fun r hr => by rw [eN r hr]; exact a4 r hr, fun k hk => by rw [h1 _ (by omega) (by omega)]; exact a5 k hk, a6, a7, a8, fun r hr => by rw [eN r hr, h2 _ (by omega) (by omega)]; exact a9 r hr⟩
def gn (s : sS) : Int32 := xPts (s 1).toNatClampNeg
/-- one tick's part of the heat -/
def clp (m : Int32) : Int32 := if m ≤ 5 then (if (-5) ≤ m then m else (-5)) else 5
def ht (s : sS) : Nat → Int32
  | 0 => s 2
  | n + 1 => ht s n + clp (s 3 - ht s n)
/-- the points after i doughs of a tick -/
def L1 (s : sS) (g : Int32) (i : Nat) : sS := fun j => if 143 ≤ j ∧ j < 143 + i then (if s (20 + j) = 0 then s j + g else s j + 0) else s j
/-- the doughs that come out, after i of them -/
def L2 (s : sS) (c : Nat → Bool) (i : Nat) : sS := fun j =>
  if 163 ≤ j ∧ j < 163 + i ∧ s j = 2 ∧ c (j - 163) = true then 3
  else if 223 ≤ j ∧ j < 247 ∧ (j - 223) % 4 = 0 then s j + s32 (fun k => if (s (163 + k) = 2 ∧ c k = true) ∧ drc s k = (j - 223) / 4 then s (123 + k) else 0) i
  else s j
theorem L1_0 (s : sS) (g : Int32) : L1 s g 0 = s := by
  funext j
  unfold L1
  rw [if_neg (by omega)]
theorem L1_step (s : sS) (g : Int32) (i : Nat) : L1 s g (i + 1) = upd (L1 s g i) (143 + i) (s (143 + i) + if s (163 + i) = 0 then g else 0) := by
  funext j
  unfold upd
  by_cases e : j = 143 + i
  · subst e
    unfold L1
    rw [if_pos (by omega), if_pos rfl, show 20 + (143 + i) = 163 + i by omega]
    by_cases g0 : s (163 + i) = 0
    · rw [if_pos g0, if_pos g0]
    · rw [if_neg g0, if_neg g0]
  · rw [if_neg e]
    unfold L1
    by_cases h : 143 ≤ j ∧ j < 143 + i
    · rw [if_pos h, if_pos (by omega)]
    · rw [if_neg h, if_neg (by omega)]
theorem L2_0 (s : sS) (c : Nat → Bool) : L2 s c 0 = s := by
  funext j
  unfold L2
  rw [if_neg (by omega)]
  by_cases h : 223 ≤ j ∧ j < 247 ∧ (j - 223) % 4 = 0
  · rw [if_pos h]; exact Int32.add_zero _
  · rw [if_neg h]
theorem L2_no (s : sS) (c : Nat → Bool) (i : Nat) (hn : ¬ (s (163 + i) = 2 ∧ c i = true)) : L2 s c (i + 1) = L2 s c i := by
  funext j
  unfold L2
  by_cases h1 : 163 ≤ j ∧ j < 163 + i ∧ s j = 2 ∧ c (j - 163) = true
  · rw [if_pos h1, if_pos ⟨h1.1, by omega, h1.2.2⟩]
  · rw [if_neg h1, if_neg (fun h9 => by
      by_cases e : j = 163 + i
      · subst e
        rw [show 163 + i - 163 = i by omega] at h9
        exact hn h9.2.2
      · exact h1 ⟨h9.1, by omega, h9.2.2⟩)]
    by_cases h : 223 ≤ j ∧ j < 247 ∧ (j - 223) % 4 = 0
    · rw [if_pos h, if_pos h]
      show s j + (s32 _ i + (if (s (163 + i) = 2 ∧ c i = true) ∧ drc s i = (j - 223) / 4 then s (123 + i) else 0)) = _
      rw [if_neg (fun h9 => hn h9.1), Int32.add_zero]
    · rw [if_neg h, if_neg h]
theorem L2_br (s : sS) (c : Nat → Bool) (i r : Nat) (hi : i ≤ 20) (hr : r < 6) : L2 s c i (223 + 4 * r) = s (223 + 4 * r) + s32 (fun k => if (s (163 + k) = 2 ∧ c k = true) ∧ drc s k = r then s (123 + k) else 0) i := by
  unfold L2
  rw [if_neg (show ¬ (163 ≤ 223 + 4 * r ∧ 223 + 4 * r < 163 + i ∧ _) from fun h9 => by have := h9.2.1; omega), if_pos (show 223 ≤ 223 + 4 * r ∧ 223 + 4 * r < 247 ∧ (223 + 4 * r - 223) % 4 = 0 by omega), show (223 + 4 * r - 223) / 4 = r by omega]
theorem L2_yes (s : sS) (c : Nat → Bool) (i : Nat) (hi : i < 20) (hr : drc s i < 6) (hy : s (163 + i) = 2 ∧ c i = true) : L2 s c (i + 1) = upd (upd (L2 s c i) (163 + i) 3) (223 + 4 * drc s i) (L2 s c i (223 + 4 * drc s i) + s (123 + i)) := by
  funext j
  unfold upd
  by_cases e1 : j = 223 + 4 * drc s i
  · subst e1
    rw [if_pos rfl]
    rw [L2_br s c (i + 1) _ (by omega) hr, L2_br s c i _ (by omega) hr]
    show s _ + (s32 _ i + (if (s (163 + i) = 2 ∧ c i = true) ∧ drc s i = drc s i then s (123 + i) else 0)) = _
    rw [if_pos ⟨hy, rfl⟩, Int32.add_assoc]
  · rw [if_neg e1]
    by_cases e2 : j = 163 + i
    · subst e2
      rw [if_pos rfl]
      unfold L2
      rw [if_pos ⟨by omega, by omega, hy.1, by rw [show 163 + i - 163 = i by omega]; exact hy.2⟩]
    · rw [if_neg e2]
      unfold L2
      by_cases h1 : 163 ≤ j ∧ j < 163 + i ∧ s j = 2 ∧ c (j - 163) = true
      · rw [if_pos h1, if_pos ⟨h1.1, by omega, h1.2.2⟩]
      · rw [if_neg h1, if_neg (fun h9 => h1 ⟨h9.1, by omega, h9.2.2⟩)]
        by_cases h : 223 ≤ j ∧ j < 247 ∧ (j - 223) % 4 = 0
        · rw [if_pos h, if_pos h]
          show s j + (s32 _ i + (if (s (163 + i) = 2 ∧ c i = true) ∧ drc s i = (j - 223) / 4 then s (123 + i) else 0)) = _
          rw [if_neg (fun h9 => e1 (by have := h9.2; omega)), Int32.add_zero]
        · rw [if_neg h, if_neg h]
theorem L2_at (s : sS) (c : Nat → Bool) (i : Nat) {j : Nat} (h1 : ¬ (163 ≤ j ∧ j < 163 + i)) (h2 : ¬ (223 ≤ j ∧ j < 247 ∧ (j - 223) % 4 = 0)) : L2 s c i j = s j := by
  unfold L2
  rw [if_neg (fun h9 => h1 ⟨h9.1, h9.2.1⟩), if_neg h2]
theorem L1_at (s : sS) (g : Int32) (i : Nat) {j : Nat} (h1 : ¬ (143 ≤ j ∧ j < 143 + i)) : L1 s g i j = s j := by
  unfold L1
  rw [if_neg h1]
def tkC (s : sS) (k : Nat) : Bool := decide (s (203 + k) + 10 = s 0)
def tk3 (s : sS) : sS := upd (L1 (upd s 0 (s 0 + 1)) (gn s) (cD s)) 2 (s 2 + clp (s 3 - s 2))
/-- one tick -/
def tk (s : sS) : sS := L2 (tk3 s) (tkC (tk3 s)) (cD s)
def tkN (s : sS) : Nat → sS
  | 0 => s
  | n + 1 => tk (tkN s n)
/-! the model's tick -/
theorem tk3_at (s : sS) {j : Nat} (h0 : j ≠ 0) (h2 : j ≠ 2) (h3 : ¬ (143 ≤ j ∧ j < 163)) (hD : cD s ≤ 20) : tk3 s j = s j := by
  unfold tk3
  rw [upd_ne _ _ h2, L1_at _ _ _ (by omega), upd_ne _ _ h0]
theorem tk_at (s : sS) {j : Nat} (h0 : j ≠ 0) (h2 : j ≠ 2) (h3 : ¬ (143 ≤ j ∧ j < 183)) (h4 : ¬ (223 ≤ j ∧ j < 247 ∧ (j - 223) % 4 = 0)) (hD : cD s ≤ 20) : tk s j = s j := by
  unfold tk
  rw [L2_at _ _ _ (by omega) h4, tk3_at s h0 h2 (by omega) hD]
theorem tkN_at (s : sS) (hD : cD s ≤ 20) {j : Nat} (h0 : j ≠ 0) (h2 : j ≠ 2) (h3 : ¬ (143 ≤ j ∧ j < 183)) (h4 : ¬ (223 ≤ j ∧ j < 247 ∧ (j - 223) % 4 = 0)) : ∀ n, tkN s n j = s j ∧ cD (tkN s n) = cD s
  | 0 => ⟨rfl, rfl⟩
  | n + 1 => by
    obtain ⟨h5, h6⟩ := tkN_at s hD h0 h2 h3 h4 n
    refine ⟨(tk_at _ h0 h2 h3 h4 (by omega)).trans h5, ?_⟩
    rw [← h6]
    unfold cD
    exact congrArg _ (tk_at _ (by decide) (by decide) (by omega) (by omega) (by omega))