/-! ===== PASS: the model tick by tick, the class at once ===== -/
theorem caps_congr {s s' : sS} (hc : caps s) (h5 : s' 5 = s 5) (h6 : s' 6 = s 6) (h7 : s' 7 = s 7) (h1 : ∀ j, 103 ≤ j → j < 123 → s' j = s j) (h2 : ∀ j, 259 ≤ j → j < 265 → s' j = s j) : caps s' := by
  obtain ⟨a1, a2, a3, a4, a5, a6, a7, a8, a9⟩ := hc
  have eR : cR s' = cR s := by unfold cR; rw [h5]
  have eD : cD s' = cD s := by unfold cD; rw [h6]
  have eS : cS s' = cS s := by unfold cS; rw [h7]
  have eN : ∀ r, r < 6 → cN s' r = cN s r := fun r hr => by unfold cN; rw [h2 _ (by omega) (by omega)]
  unfold caps
  rw [eR, eD, eS, h5, h6, h7]
  exact ⟨a1, a2, a3, fun r hr => by rw [eN r hr]; exact a4 r hr, fun k hk => by rw [h1 _ (by omega) (by omega)]; exact a5 k hk, a6, a7, a8, fun r hr => by rw [eN r hr, h2 _ (by omega) (by omega)]; exact a9 r hr⟩
def gn (s : sS) : Int32 := xPts (s 1).toNatClampNeg
/-- one tick's part of the heat -/
def clp (m : Int32) : Int32 := if m ≤ 5 then (if (-5) ≤ m then m else (-5)) else 5
def ht (s : sS) : Nat → Int32
  | 0 => s 2
  | n + 1 => ht s n + clp (s 3 - ht s n)
/-- the points after i doughs of a tick -/
def L1 (s : sS) (g : Int32) (i : Nat) : sS := fun j => if 143 ≤ j ∧ j < 143 + i then (if s (20 + j) = 0 then s j + g else s j + 0) else s j
/-- the doughs that come out, after i of them -/
def L2 (s : sS) (c : Nat → Bool) (i : Nat) : sS := fun j =>
  if 163 ≤ j ∧ j < 163 + i ∧ s j = 2 ∧ c (j - 163) = true then 3
  else if 223 ≤ j ∧ j < 247 ∧ (j - 223) % 4 = 0 then s j + s32 (fun k => if (s (163 + k) = 2 ∧ c k = true) ∧ drc s k = (j - 223) / 4 then s (123 + k) else 0) i
  else s j
theorem L1_0 (s : sS) (g : Int32) : L1 s g 0 = s := by
  funext j
  unfold L1
  rw [if_neg (by omega)]
theorem L1_step (s : sS) (g : Int32) (i : Nat) : L1 s g (i + 1) = upd (L1 s g i) (143 + i) (s (143 + i) + if s (163 + i) = 0 then g else 0) := by
  funext j
  unfold upd
  by_cases e : j = 143 + i
  · subst e
    unfold L1
    rw [if_pos (by omega), if_pos rfl, show 20 + (143 + i) = 163 + i by omega]
    by_cases g0 : s (163 + i) = 0
    · rw [if_pos g0, if_pos g0]
    · rw [if_neg g0, if_neg g0]
  · rw [if_neg e]
    unfold L1
    by_cases h : 143 ≤ j ∧ j < 143 + i
    · rw [if_pos h, if_pos (by omega)]
    · rw [if_neg h, if_neg (by omega)]
theorem L2_0 (s : sS) (c : Nat → Bool) : L2 s c 0 = s := by
  funext j
  unfold L2
  rw [if_neg (by omega)]
  by_cases h : 223 ≤ j ∧ j < 247 ∧ (j - 223) % 4 = 0
  · rw [if_pos h]; exact Int32.add_zero _
  · rw [if_neg h]
theorem L2_no (s : sS) (c : Nat → Bool) (i : Nat) (hn : ¬ (s (163 + i) = 2 ∧ c i = true)) : L2 s c (i + 1) = L2 s c i := by
  funext j
  unfold L2
  by_cases h1 : 163 ≤ j ∧ j < 163 + i ∧ s j = 2 ∧ c (j - 163) = true
  · rw [if_pos h1, if_pos ⟨h1.1, by omega, h1.2.2⟩]
  · rw [if_neg h1, if_neg (fun h9 => by
      by_cases e : j = 163 + i
      · subst e
        rw [show 163 + i - 163 = i by omega] at h9
        exact hn h9.2.2
      · exact h1 ⟨h9.1, by omega, h9.2.2⟩)]
    by_cases h : 223 ≤ j ∧ j < 247 ∧ (j - 223) % 4 = 0
    · rw [if_pos h, if_pos h]
      show s j + (s32 _ i + (if (s (163 + i) = 2 ∧ c i = true) ∧ drc s i = (j - 223) / 4 then s (123 + i) else 0)) = _
      rw [if_neg (fun h9 => hn h9.1), Int32.add_zero]
    · rw [if_neg h, if_neg h]
theorem L2_br (s : sS) (c : Nat → Bool) (i r : Nat) (hi : i ≤ 20) (hr : r < 6) : L2 s c i (223 + 4 * r) = s (223 + 4 * r) + s32 (fun k => if (s (163 + k) = 2 ∧ c k = true) ∧ drc s k = r then s (123 + k) else 0) i := by
  unfold L2
  rw [if_neg (show ¬ (163 ≤ 223 + 4 * r ∧ 223 + 4 * r < 163 + i ∧ _) from fun h9 => by have := h9.2.1; omega), if_pos (show 223 ≤ 223 + 4 * r ∧ 223 + 4 * r < 247 ∧ (223 + 4 * r - 223) % 4 = 0 by omega), show (223 + 4 * r - 223) / 4 = r by omega]
theorem L2_yes (s : sS) (c : Nat → Bool) (i : Nat) (hi : i < 20) (hr : drc s i < 6) (hy : s (163 + i) = 2 ∧ c i = true) : L2 s c (i + 1) = upd (upd (L2 s c i) (163 + i) 3) (223 + 4 * drc s i) (L2 s c i (223 + 4 * drc s i) + s (123 + i)) := by
  funext j
  unfold upd
  by_cases e1 : j = 223 + 4 * drc s i
  · subst e1
    rw [if_pos rfl]
    rw [L2_br s c (i + 1) _ (by omega) hr, L2_br s c i _ (by omega) hr]
    show s _ + (s32 _ i + (if (s (163 + i) = 2 ∧ c i = true) ∧ drc s i = drc s i then s (123 + i) else 0)) = _
    rw [if_pos ⟨hy, rfl⟩, Int32.add_assoc]
  · rw [if_neg e1]
    by_cases e2 : j = 163 + i
    · subst e2
      rw [if_pos rfl]
      unfold L2
      rw [if_pos ⟨by omega, by omega, hy.1, by rw [show 163 + i - 163 = i by omega]; exact hy.2⟩]
    · rw [if_neg e2]
      unfold L2
      by_cases h1 : 163 ≤ j ∧ j < 163 + i ∧ s j = 2 ∧ c (j - 163) = true
      · rw [if_pos h1, if_pos ⟨h1.1, by omega, h1.2.2⟩]
      · rw [if_neg h1, if_neg (fun h9 => h1 ⟨h9.1, by omega, h9.2.2⟩)]
        by_cases h : 223 ≤ j ∧ j < 247 ∧ (j - 223) % 4 = 0
        · rw [if_pos h, if_pos h]
          show s j + (s32 _ i + (if (s (163 + i) = 2 ∧ c i = true) ∧ drc s i = (j - 223) / 4 then s (123 + i) else 0)) = _
          rw [if_neg (fun h9 => e1 (by have := h9.2; omega)), Int32.add_zero]
        · rw [if_neg h, if_neg h]
theorem L2_at (s : sS) (c : Nat → Bool) (i : Nat) {j : Nat} (h1 : ¬ (163 ≤ j ∧ j < 163 + i)) (h2 : ¬ (223 ≤ j ∧ j < 247 ∧ (j - 223) % 4 = 0)) : L2 s c i j = s j := by
  unfold L2
  rw [if_neg (fun h9 => h1 ⟨h9.1, h9.2.1⟩), if_neg h2]
theorem L1_at (s : sS) (g : Int32) (i : Nat) {j : Nat} (h1 : ¬ (143 ≤ j ∧ j < 143 + i)) : L1 s g i j = s j := by
  unfold L1
  rw [if_neg h1]
def tkC (s : sS) (k : Nat) : Bool := decide (s (203 + k) + 10 = s 0)
def tk3 (s : sS) : sS := upd (L1 (upd s 0 (s 0 + 1)) (gn s) (cD s)) 2 (s 2 + clp (s 3 - s 2))
/-- one tick -/
def tk (s : sS) : sS := L2 (tk3 s) (tkC (tk3 s)) (cD s)
def tkN (s : sS) : Nat → sS
  | 0 => s
  | n + 1 => tk (tkN s n)
/-! the model's tick -/
theorem M_gain {σ : xSt} {H : List sS} {s : sS} {tx : (Nat → Int32) × Nat} (h : RM σ (H, s, tx)) (hw : bt (s 1) 0 5) : fX12_gain σ = some (gn s, σ) := by
  have e := bt_nI hw (by decide)
  have hb := bt_cl hw (by decide)
  have a1 : σ 1 1 = nI (s 1).toNatClampNeg := (M_at2 h (by decide)).trans e
  unfold fX12_gain gn
  rw [show (1 : Int32) = nI 1 from rfl, xr_n (by decide) (by decide), a1]
  rcases (show (s 1).toNatClampNeg = 0 ∨ (s 1).toNatClampNeg = 1 ∨ (s 1).toNatClampNeg = 2 ∨ (s 1).toNatClampNeg = 3 ∨ (s 1).toNatClampNeg = 4 ∨ (s 1).toNatClampNeg = 5 by omega) with z | z | z | z | z | z <;> rw [z] <;> rfl
theorem M_tickOut {H : List sS} {s : sS} {tx : (Nat → Int32) × Nat} (hc : caps s) (hd : ∀ k, k < cD s → s (103 + k) = nI (drc s k)) : ∀ (d i n : Nat) (σ : xSt), i + d = cD s → d < n → RM σ (H, L2 s (tkC s) i, tx) → ∃ σ', fX12_passes_c109 n (nI i) σ = some σ' ∧ RM σ' (H, L2 s (tkC s) (cD s), tx) ∧ σ' 0 0 = σ 0 0 := by
  have hcD := hc.2.1
  intro d
  induction d with
  | zero =>
    intro i n σ hi hn h
    obtain ⟨n, rfl⟩ : ∃ z, n = z + 1 := ⟨n - 1, by omega⟩
    obtain rfl : i = cD s := by omega
    have a1 : σ 1 6 = nI (cD s) := (M_at2 h (by decide)).trans ((L2_at s _ _ (by omega) (by omega)).trans hc.2.2.2.2.2.2.1)
    rw [fX12_passes_c109_s, show (6 : Int32) = nI 6 from rfl, xr_n (by decide) (by decide), a1, if_pos (nI_le (Nat.le_refl _) (by omega))]
    exact ⟨σ, rfl, h, rfl⟩
  | succ d ih =>
    intro i n σ hi hn h
    obtain ⟨n, rfl⟩ : ∃ z, n = z + 1 := ⟨n - 1, by omega⟩
    have hr := drc_lt hc (show i < cD s by omega)
    have hcR := hc.1
    have a1 : σ 1 6 = nI (cD s) := (M_at2 h (by decide)).trans ((L2_at s _ _ (by omega) (by omega)).trans hc.2.2.2.2.2.2.1)
    have a2 : σ 1 (163 + i) = s (163 + i) := (M_at2 h (by omega)).trans (L2_at s _ _ (by omega) (by omega))
    have a3 : σ 1 (203 + i) = s (203 + i) := (M_at2 h (by omega)).trans (L2_at s _ _ (by omega) (by omega))
    have a4 : σ 1 (Int32.toNatClampNeg 0) = s 0 := (M_at2 h (by decide)).trans (L2_at s _ _ (by show ¬ (163 ≤ 0 ∧ _); omega) (by show ¬ (223 ≤ 0 ∧ _); omega))
    rw [fX12_passes_c109_s, show (6 : Int32) = nI 6 from rfl, xr_n (by decide) (by decide), a1, if_neg (nI_ge (by omega) (by omega)), show (163 : Int32) = nI 163 from rfl, nI_add, xr_n (by omega) (by decide), a2]
    by_cases g1 : s (163 + i) = 2
    · rw [if_pos g1, show (203 : Int32) = nI 203 from rfl, nI_add, xr_n (by omega) (by decide), a3, xr_t (by decide), a4]
      by_cases g2 : s (203 + i) + 10 = s 0
      · have hy : s (163 + i) = 2 ∧ tkC s i = true := ⟨g1, decide_eq_true g2⟩
        rw [if_pos g2, xs_n (by omega) (by decide)]
        have h2 := h.set (163 + i) 3
        have b1 : xu σ 1 (163 + i) 3 1 (103 + i) = nI (drc s i) := ((M_at2 h2 (by omega)).trans ((upd_ne _ _ (by omega)).trans (L2_at s _ _ (by omega) (by omega)))).trans (hd i (by omega))
        have b2 : xu σ 1 (163 + i) 3 1 (223 + 4 * drc s i) = L2 s (tkC s) i (223 + 4 * drc s i) := (M_at2 h2 (by omega)).trans (upd_ne _ _ (by omega))
        have b3 : xu σ 1 (163 + i) 3 1 (123 + i) = s (123 + i) := (M_at2 h2 (by omega)).trans ((upd_ne _ _ (by omega)).trans (L2_at s _ _ (by omega) (by omega)))
        have h3 := h2.set (223 + 4 * drc s i) (L2 s (tkC s) i (223 + 4 * drc s i) + s (123 + i))
        rw [← L2_yes s (tkC s) i (by omega) (by omega) hy] at h3
        obtain ⟨σ', e, h4, h5⟩ := ih (i + 1) n _ (by omega) (by omega) h3
        refine ⟨σ', ?_, h4, h5.trans (by rw [xu_ne _ _ _ (by decide), xu_ne _ _ _ (by decide)])⟩
        rw [show (103 : Int32) = nI 103 from rfl, nI_add, xr_n (by omega) (by decide), b1, show (223 : Int32) = nI 223 from rfl, show (4 : Int32) = nI 4 from rfl, nI_mul, nI_add, xl_t, xr_n (by omega) (by decide), b2, show (123 : Int32) = nI 123 from rfl, nI_add, xr_n (by omega) (by decide), b3, xs_n (by omega) (by decide), xl_t, nI_1]
        exact e
      · rw [if_neg g2, xl_t, nI_1]
        rw [← L2_no s (tkC s) i (fun h9 => g2 (of_decide_eq_true h9.2))] at h
        exact ih (i + 1) n σ (by omega) (by omega) h
    · rw [if_neg g1, xl_t, nI_1]
      rw [← L2_no s (tkC s) i (fun h9 => g1 h9.1)] at h
      exact ih (i + 1) n σ (by omega) (by omega) h
theorem tk3_at (s : sS) {j : Nat} (h0 : j ≠ 0) (h2 : j ≠ 2) (h3 : ¬ (143 ≤ j ∧ j < 163)) (hD : cD s ≤ 20) : tk3 s j = s j := by
  unfold tk3
  rw [upd_ne _ _ h2, L1_at _ _ _ (by omega), upd_ne _ _ h0]
theorem M_tickUp {H : List sS} {s0 : sS} {tx : (Nat → Int32) × Nat} (hc : caps s0) (hw : bt (s0 1) 0 5) (hd : ∀ k, k < cD s0 → s0 (103 + k) = nI (drc s0 k)) : ∀ (d i n : Nat) (σ : xSt), i + d = cD s0 → d < n → RM σ (H, L1 (upd s0 0 (s0 0 + 1)) (gn s0) i, tx) → ∃ σ', fX12_passes_c12 n (nI i) σ = some σ' ∧ RM σ' (H, tk s0, tx) ∧ σ' 0 0 = σ 0 0 := by
  have hcD := hc.2.1
  intro d
  induction d with
  | zero =>
    intro i n σ hi hn h
    obtain ⟨n, rfl⟩ : ∃ z, n = z + 1 := ⟨n - 1, by omega⟩
    obtain rfl : i = cD s0 := by omega
    have a1 : σ 1 6 = nI (cD s0) := (M_at2 h (by decide)).trans ((L1_at _ _ _ (by omega)).trans ((upd_ne _ _ (by decide)).trans hc.2.2.2.2.2.2.1))
    have a2 : σ 1 3 = s0 3 := (M_at2 h (by decide)).trans ((L1_at _ _ _ (by omega)).trans (upd_ne _ _ (by decide)))
    have a3 : σ 1 2 = s0 2 := (M_at2 h (by decide)).trans ((L1_at _ _ _ (by omega)).trans (upd_ne _ _ (by decide)))
    have c3 : caps (tk3 s0) := caps_congr hc (tk3_at s0 (by decide) (by decide) (by omega) hcD) (tk3_at s0 (by decide) (by decide) (by omega) hcD) (tk3_at s0 (by decide) (by decide) (by omega) hcD) (fun j h1 h2 => tk3_at s0 (by omega) (by omega) (by omega) hcD) (fun j h1 h2 => tk3_at s0 (by omega) (by omega) (by omega) hcD)
    have eD : cD (tk3 s0) = cD s0 := by unfold cD; rw [tk3_at s0 (by decide) (by decide) (by omega) hcD]
    have d3 : ∀ k, k < cD (tk3 s0) → tk3 s0 (103 + k) = nI (drc (tk3 s0) k) := fun k hk => by
      rw [eD] at hk
      unfold drc
      rw [tk3_at s0 (by omega) (by omega) (by omega) hcD]
      exact hd k hk
    have fin : ∀ v, v = s0 2 + clp (s0 3 - s0 2) → ∃ σ', fX12_passes_c109 xFU 0 (xu σ 1 2 v) = some σ' ∧ RM σ' (H, tk s0, tx) ∧ σ' 0 0 = σ 0 0 := by
      intro v hv
      have h2 := h.set 2 v
      have e3 : upd (L1 (upd s0 0 (s0 0 + 1)) (gn s0) (cD s0)) 2 v = tk3 s0 := by rw [hv]; rfl
      rw [e3, ← L2_0 (tk3 s0) (tkC (tk3 s0))] at h2
      obtain ⟨σ', e, h4, h5⟩ := M_tickOut c3 d3 (cD s0) 0 xFU _ (by rw [eD]; omega) (by show cD s0 < 8192; omega) h2
      rw [eD] at h4
      exact ⟨σ', e, h4, h5.trans (by rw [xu_ne _ _ _ (by decide)])⟩
    rw [fX12_passes_c12_s, show (6 : Int32) = nI 6 from rfl, xr_n (by decide) (by decide), a1, if_pos (nI_le (Nat.le_refl _) (by omega)), show (3 : Int32) = nI 3 from rfl, xr_n (by decide) (by decide), a2, show (2 : Int32) = nI 2 from rfl, xr_n (by decide) (by decide), a3, xl_t, xr_n (by decide) (by decide), a3]
    have e0 : clp (s0 3 - s0 2) = if s0 3 - s0 2 ≤ 5 then (if (-5) ≤ s0 3 - s0 2 then s0 3 - s0 2 else (-5)) else 5 := rfl
    by_cases g1 : s0 3 - s0 2 ≤ 5
    · rw [if_pos g1] at e0 ⊢
      by_cases g2 : (-5) ≤ s0 3 - s0 2
      · rw [if_pos g2] at e0 ⊢
        rw [xs_n (by decide) (by decide)]
        exact fin _ (by rw [e0])
      · rw [if_neg g2] at e0 ⊢
        rw [xs_n (by decide) (by decide)]
        exact fin _ (by rw [e0])
    · rw [if_neg g1] at e0 ⊢
      rw [xs_n (by decide) (by decide)]
      exact fin _ (by rw [e0])
  | succ d ih =>
    intro i n σ hi hn h
    obtain ⟨n, rfl⟩ : ∃ z, n = z + 1 := ⟨n - 1, by omega⟩
    have a1 : σ 1 6 = nI (cD s0) := (M_at2 h (by decide)).trans ((L1_at _ _ _ (by omega)).trans ((upd_ne _ _ (by decide)).trans hc.2.2.2.2.2.2.1))
    have a2 : σ 1 (143 + i) = upd s0 0 (s0 0 + 1) (143 + i) := (M_at2 h (by omega)).trans (L1_at _ _ _ (by omega))
    have a3 : σ 1 (163 + i) = upd s0 0 (s0 0 + 1) (163 + i) := (M_at2 h (by omega)).trans (L1_at _ _ _ (by omega))
    have ew : L1 (upd s0 0 (s0 0 + 1)) (gn s0) i 1 = s0 1 := (L1_at _ _ _ (by omega)).trans (upd_ne _ _ (by decide))
    have eg : gn (L1 (upd s0 0 (s0 0 + 1)) (gn s0) i) = gn s0 := congrArg (fun v : Int32 => xPts v.toNatClampNeg) ew
    have es := L1_step (upd s0 0 (s0 0 + 1)) (gn s0) i
    rw [fX12_passes_c12_s, show (6 : Int32) = nI 6 from rfl, xr_n (by decide) (by decide), a1, if_neg (nI_ge (by omega) (by omega)), show (143 : Int32) = nI 143 from rfl, nI_add, xl_t, xr_n (by omega) (by decide), a2, show (163 : Int32) = nI 163 from rfl, nI_add, xr_n (by omega) (by decide), a3]
    by_cases g1 : upd s0 0 (s0 0 + 1) (163 + i) = 0
    · rw [if_pos g1] at es ⊢
      have h2 := h.set (143 + i) (upd s0 0 (s0 0 + 1) (143 + i) + gn s0)
      rw [← es] at h2
      obtain ⟨σ', e, h4, h5⟩ := ih (i + 1) n _ (by omega) (by omega) h2
      refine ⟨σ', ?_, h4, h5.trans (by rw [xu_ne _ _ _ (by decide)])⟩
      rw [M_gain h (by rw [ew]; exact hw), eg, xc2_t, xs_n (by omega) (by decide), xl_t, nI_1]
      exact e
    · rw [if_neg g1] at es ⊢
      have h2 := h.set (143 + i) (upd s0 0 (s0 0 + 1) (143 + i) + 0)
      rw [← es] at h2
      obtain ⟨σ', e, h4, h5⟩ := ih (i + 1) n _ (by omega) (by omega) h2
      refine ⟨σ', ?_, h4, h5.trans (by rw [xu_ne _ _ _ (by decide)])⟩
      rw [xs_n (by omega) (by decide), xl_t, nI_1]
      exact e
theorem M_tick {σ : xSt} {H : List sS} {s : sS} {tx : (Nat → Int32) × Nat} (h : RM σ (H, s, tx)) (hc : caps s) (hw : bt (s 1) 0 5) (hd : ∀ k, k < cD s → s (103 + k) = nI (drc s k)) : ∃ σ', fX12_passes σ = some σ' ∧ RM σ' (H, tk s, tx) ∧ σ' 0 0 = σ 0 0 := by
  have a1 : σ 1 (Int32.toNatClampNeg 0) = s 0 := M_at2 h (by decide)
  have h2 := h.set 0 (s 0 + 1)
  rw [← L1_0 (upd s 0 (s 0 + 1)) (gn s)] at h2
  obtain ⟨σ', e, h4, h5⟩ := M_tickUp hc hw hd (cD s) 0 xFU _ (by omega) (by have := hc.2.1; show cD s < 8192; omega) h2
  refine ⟨σ', ?_, h4, h5.trans (by rw [xu_ne _ _ _ (by decide)])⟩
  unfold fX12_passes
  rw [xr_t (by decide), a1, xs_t (by decide)]
  exact e
theorem tk_at (s : sS) {j : Nat} (h0 : j ≠ 0) (h2 : j ≠ 2) (h3 : ¬ (143 ≤ j ∧ j < 183)) (h4 : ¬ (223 ≤ j ∧ j < 247 ∧ (j - 223) % 4 = 0)) (hD : cD s ≤ 20) : tk s j = s j := by
  unfold tk
  rw [L2_at _ _ _ (by omega) h4, tk3_at s h0 h2 (by omega) hD]
theorem tkN_at (s : sS) (hD : cD s ≤ 20) {j : Nat} (h0 : j ≠ 0) (h2 : j ≠ 2) (h3 : ¬ (143 ≤ j ∧ j < 183)) (h4 : ¬ (223 ≤ j ∧ j < 247 ∧ (j - 223) % 4 = 0)) : ∀ n, tkN s n j = s j ∧ cD (tkN s n) = cD s
  | 0 => ⟨rfl, rfl⟩
  | n + 1 => by
    obtain ⟨h5, h6⟩ := tkN_at s hD h0 h2 h3 h4 n
    refine ⟨(tk_at _ h0 h2 h3 h4 (by omega)).trans h5, ?_⟩
    rw [← h6]
    unfold cD
    exact congrArg _ (tk_at _ (by decide) (by decide) (by omega) (by omega) (by omega))
theorem M_pass {N : Nat} {σ : xSt} {H : List sS} {s : sS} {tx : (Nat → Int32) × Nat} (h : RM σ (H, s, tx)) (hI : Inv N s) (p0 : Int32) :
    (¬ (1 ≤ p0 ∧ p0 ≤ 200) → MR (fX12_pass p0 σ) 9 1 2 9 (.inr 1, (H, s, tx))) ∧ ∀ n, 1 ≤ n → n ≤ 200 → p0 = nI n → (100000 < s 0 + p0 → MR (fX12_pass p0 σ) 9 1 2 9 (.inr 2, (H, s, tx))) ∧ (¬ 100000 < s 0 + p0 → MR (fX12_pass p0 σ) 9 1 2 9 (.inl (tkN s n 0), (kp H s, tkN s n, tx))) := by
  have hc := hI.caps
  have hcD := hc.2.1
  unfold fX12_pass
  rw [M_in, xc2_t]
  refine ⟨fun g1 => ?_, fun n h1 h2 e => ?_⟩
  · rw [if_neg g1, M_can0, xc2_t, if_pos rfl]
    exact ⟨_, _, rfl, h.raised 1, rfl, fun v hv => nomatch hv⟩
  · subst e
    have g1 : (1 : Int32) ≤ nI n ∧ nI n ≤ 200 := ⟨nI_le (a := 1) (b := n) h1 (by omega), nI_le (a := n) (b := 200) h2 (by decide)⟩
    have a1 : xu σ 0 0 0 1 (Int32.toNatClampNeg 0) = s 0 := M_at2 (h.raised 0) (by decide)
    rw [if_pos g1, M_can1, xc2_t, if_neg (by decide), xr_t (by decide), a1]
    refine ⟨fun g2 => ?_, fun g2 => ?_⟩
    · rw [if_pos g2]
      exact ⟨_, _, rfl, (h.raised 0).raised 2, rfl, fun v hv => nomatch hv⟩
    · rw [if_neg g2]
      unfold fX12_pass_c35
      rw [M_can1, xc2_t, if_neg (by decide)]
      obtain ⟨σ1, e1, h3, -, f2, -⟩ := M_keep ((h.raised 0).raised 0)
      rw [e1, xc_t]
      have loop : ∀ (d i m : Nat) (σ : xSt), i + d = n → d < m → RM σ (kp H s, tkN s i, tx) → ∃ σ', fX12_pass_c50 m (nI n) (nI i) σ = some (tkN s n 0, σ') ∧ RM σ' (kp H s, tkN s n, tx) ∧ σ' 0 0 = σ 0 0 := by
        intro d
        induction d with
        | zero =>
          intro i m σ hi hm h4
          obtain ⟨m, rfl⟩ : ∃ z, m = z + 1 := ⟨m - 1, by omega⟩
          obtain rfl : i = n := by omega
          have a2 : σ 1 (Int32.toNatClampNeg 0) = tkN s i 0 := M_at2 h4 (by decide)
          rw [fX12_pass_c50_s, if_pos (nI_le (Nat.le_refl _) (by omega)), xr_t (by decide), a2]
          exact ⟨σ, rfl, h4, rfl⟩
        | succ d ih =>
          intro i m σ hi hm h4
          obtain ⟨m, rfl⟩ : ∃ z, m = z + 1 := ⟨m - 1, by omega⟩
          have at' : ∀ {j : Nat}, j ≠ 0 → j ≠ 2 → ¬ (143 ≤ j ∧ j < 183) → ¬ (223 ≤ j ∧ j < 247 ∧ (j - 223) % 4 = 0) → tkN s i j = s j := fun a b c d => (tkN_at s hcD a b c d i).1
          have eD : cD (tkN s i) = cD s := (tkN_at s hcD (j := 1) (by decide) (by decide) (by omega) (by omega) i).2
          have ci : caps (tkN s i) := caps_congr hc (at' (by decide) (by decide) (by omega) (by omega)) (at' (by decide) (by decide) (by omega) (by omega)) (at' (by decide) (by decide) (by omega) (by omega)) (fun j _ _ => at' (by omega) (by omega) (by omega) (by omega)) (fun j _ _ => at' (by omega) (by omega) (by omega) (by omega))
          obtain ⟨σ2, e2, h5, k5⟩ := M_tick h4 ci (by rw [at' (by decide) (by decide) (by omega) (by omega)]; exact hI.oven.2.1) (fun k hk => by
            rw [eD] at hk
            unfold drc
            rw [at' (by omega) (by omega) (by omega) (by omega)]
            exact drc_eq hI hk)
          obtain ⟨σ3, e3, h6, k6⟩ := ih (i + 1) m σ2 (by omega) (by omega) h5
          refine ⟨σ3, ?_, h6, k6.trans k5⟩
          rw [fX12_pass_c50_s, if_neg (nI_ge (by omega) (by omega)), e2, xc_t, xl_t, nI_1]
          exact e3
      obtain ⟨σ2, e2, h5, k5⟩ := loop n 0 xFU σ1 (by omega) (by show n < 8192; omega) h3
      refine ⟨_, σ2, e2, h5, ?_, fun v hv => (Sum.inl.inj hv).symm⟩
      rw [k5, f2]; rfl
