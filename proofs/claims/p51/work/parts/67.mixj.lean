/-! ===== THE CHEAPEST MIX: the model's corners, and both together ===== -/
def reqK (s : sS) (lo hi : Int) (k : Nat) (c : Cd) : Prop := (∃ i, i < 4 ∧ dg k i = 2 ∧ (∀ f, f < 4 → f ≠ i → dg k f ≠ 2) ∧ c = oneC s (mS k) i) ∨ ∃ i j w, i < 4 ∧ j < 4 ∧ i ≠ j ∧ dg k i = 2 ∧ dg k j = 2 ∧ (∀ f, f < 4 → f ≠ i → f ≠ j → dg k f ≠ 2) ∧ stI s j < stI s i ∧ (w = lo ∨ w = hi) ∧ c = twoC s (mS k) i j w
theorem mS_free {k i : Nat} (h : dg k i = 2) : mS k i = false := by
  unfold mS
  rw [h]
  rfl
theorem dig (D : Nat → Nat) (hD : ∀ f, D f ≤ 2) : D 0 + 3 * D 1 + 9 * D 2 + 27 * D 3 < 81 ∧ ∀ f, f < 4 → dg (D 0 + 3 * D 1 + 9 * D 2 + 27 * D 3) f = D f := by
  have d0 := hD 0
  have d1 := hD 1
  have d2 := hD 2
  have d3 := hD 3
  refine ⟨by omega, fun f hf => ?_⟩
  have hf : f = 0 ∨ f = 1 ∨ f = 2 ∨ f = 3 := by omega
  unfold dg
  rcases hf with rfl | rfl | rfl | rfl
  · rw [show (3 : Nat) ^ 0 = 1 from rfl]; omega
  · rw [show (3 : Nat) ^ 1 = 3 from rfl]; omega
  · rw [show (3 : Nat) ^ 2 = 9 from rfl]; omega
  · rw [show (3 : Nat) ^ 3 = 27 from rfl]; omega
theorem TC_req {s : sS} {lo hi : Int} {c : Cd} (h : TC s lo hi c) : ∃ k, k < 81 ∧ reqK s lo hi k c := by
  rcases h with ⟨S, i, hi, hS, h⟩ | ⟨S, i, j, w, hi, hj, hSi, hSj, hl, hw, h⟩
  · obtain ⟨k1, k2⟩ := dig (fun f => if f = i then 2 else if S f = true then 1 else 0) (fun f => by show (if f = i then 2 else if S f = true then 1 else 0) ≤ 2; split <;> (try split) <;> omega)
    generalize (fun f => if f = i then 2 else if S f = true then 1 else 0) 0 + 3 * (fun f => if f = i then 2 else if S f = true then 1 else 0) 1 + 9 * (fun f => if f = i then 2 else if S f = true then 1 else 0) 2 + 27 * (fun f => if f = i then 2 else if S f = true then 1 else 0) 3 = k at k1 k2
    have e : ∀ f, f < 4 → mS k f = S f := fun f hf => by
      have k2 : dg k f = if f = i then 2 else if S f = true then 1 else 0 := k2 f hf
      unfold mS
      rw [k2]
      by_cases a : f = i
      · rw [if_pos a, a, hS]; rfl
      · rw [if_neg a]
        cases S f <;> rfl
    refine ⟨k, k1, Or.inl ⟨i, hi, (k2 i hi).trans (if_pos rfl), fun f hf hne => ?_, by rw [h]; exact oneC_congr (fun f hf => (e f hf).symm) i⟩⟩
    have k2 : dg k f = if f = i then 2 else if S f = true then 1 else 0 := k2 f hf
    rw [k2, if_neg hne]
    split <;> omega
  · obtain ⟨k1, k2⟩ := dig (fun f => if f = i ∨ f = j then 2 else if S f = true then 1 else 0) (fun f => by show (if f = i ∨ f = j then 2 else if S f = true then 1 else 0) ≤ 2; split <;> (try split) <;> omega)
    generalize (fun f => if f = i ∨ f = j then 2 else if S f = true then 1 else 0) 0 + 3 * (fun f => if f = i ∨ f = j then 2 else if S f = true then 1 else 0) 1 + 9 * (fun f => if f = i ∨ f = j then 2 else if S f = true then 1 else 0) 2 + 27 * (fun f => if f = i ∨ f = j then 2 else if S f = true then 1 else 0) 3 = k at k1 k2
    have e : ∀ f, f < 4 → mS k f = S f := fun f hf => by
      have k2 : dg k f = if f = i ∨ f = j then 2 else if S f = true then 1 else 0 := k2 f hf
      unfold mS
      rw [k2]
      by_cases a : f = i ∨ f = j
      · rw [if_pos a]
        rcases a with a | a
        · rw [a, hSi]; rfl
        · rw [a, hSj]; rfl
      · rw [if_neg a]
        cases S f <;> rfl
    refine ⟨k, k1, Or.inr ⟨i, j, w, hi, hj, fun e9 => ?_, (k2 i hi).trans (if_pos (Or.inl rfl)), (k2 j hj).trans (if_pos (Or.inr rfl)), fun f hf n1 n2 => ?_, hl, hw, by rw [h]; exact twoC_congr (fun f hf => (e f hf).symm) i j w⟩⟩
    · rw [e9] at hl; exact absurd hl (Int.lt_irrefl _)
    · have k2 : dg k f = if f = i ∨ f = j then 2 else if S f = true then 1 else 0 := k2 f hf
      rw [k2, if_neg (fun h9 => by omega)]
      split <;> omega
/-! both -/
theorem nI_ofZ {x : Int32} {z : Int} (h : x.toInt = z) (h0 : 0 ≤ z) : x = nI z.toNat := by
  have e : x = nI x.toNatClampNeg := bt_nI (a := 0) (b := x.toInt) ⟨by omega, Int.le_refl _⟩ (Int.le_refl 0)
  rw [← h]; exact e
theorem key_nn {N : Nat} {s : sS} {lo hi : Int} (hI : Inv N s) {c : Cd} (hf : feas s lo hi c) {k : Nat} (hk : k < 5) : 0 ≤ keyC s c k := by
  by_cases e : k = 0
  · subst e
    exact sumI_nn 4 (fun f hf4 => Int.mul_nonneg (hf.2.1 f hf4).1 (fl_b hI hf4).2.2.1)
  · have : keyC s c k = c.1 (k - 1) := if_neg e
    rw [this]; exact (hf.2.1 (k - 1) (by omega)).1
theorem key_ub {N : Nat} {s : sS} (hI : Inv N s) {c : Cd} (hc : cbw c) {k : Nat} (hk : k < 5) : keyC s c k ≤ 800000000 := by
  by_cases e : k = 0
  · subst e; exact (key0_b hI hc).2
  · have : keyC s c k = c.1 (k - 1) := if_neg e
    have := hc.2.2 (k - 1) (by omega)
    omega
theorem mix_val {N : Nat} {s : sS} {lo hi : Int} (hI : Inv N s) {b c : Cd} (hb : feas s lo hi b) (hc : feas s lo hi c) (he : eqC s b c) {k : Nat} (hk : k < 5) (p2 : Int32) : lowT (keyC s b k).toNat (100 * b.2).toNat p2 = lowT (keyC s c k).toNat (100 * c.2).toNat p2 := by
  have b0 := hb.1
  have c0 := hc.1
  have kb := key_nn hI hb hk
  have kc := key_nn hI hc hk
  have e := he k hk
  have e2 : (keyC s b k).toNat * (100 * c.2).toNat = (keyC s c k).toNat * (100 * b.2).toNat := by
    have q1 : (((keyC s b k).toNat * (100 * c.2).toNat : Nat) : Int) = keyC s b k * (100 * c.2) := by
      rw [Int.natCast_mul, Int.toNat_of_nonneg kb, Int.toNat_of_nonneg (by omega)]
    have q2 : (((keyC s c k).toNat * (100 * b.2).toNat : Nat) : Int) = keyC s c k * (100 * b.2) := by
      rw [Int.natCast_mul, Int.toNat_of_nonneg kc, Int.toNat_of_nonneg (by omega)]
    rw [Int.mul_left_comm] at q1 q2
    omega
  have f := frac_eq (a := (keyC s b k).toNat) (b := (100 * b.2).toNat) (c := (keyC s c k).toNat) (d := (100 * c.2).toNat) (by omega) (by omega) e2
  unfold lowT
  rw [f.1, f.2]
def bnd (p0 p1 : Int32) : Prop := (0 ≤ p0 ∧ p0 ≤ 200) ∧ (p0 ≤ p1 ∧ p1 ≤ 200)
theorem bnd_bt {p0 p1 : Int32} (h : bnd p0 p1) : bt p0 0 200 ∧ bt p1 0 200 := by
  obtain ⟨⟨a, b⟩, c, d⟩ := h
  rw [fa_le] at a b c d
  exact ⟨⟨a, b⟩, Int.le_trans a c, d⟩
theorem X_mixC0 (p0 p1 p2 : Int32) (σ : xSt) : (bnd p0 p1 → fX11_mixCost p0 p1 p2 σ = fX11_mixCost_c27 p0 p1 p2 1 σ) ∧ (¬ bnd p0 p1 → fX11_mixCost p0 p1 p2 σ = some (.inr 1, σ)) := by
  have e0 : fX11_mixCost_c26 p0 p1 p2 σ = some (.inr 1, σ) := by
    unfold fX11_mixCost_c26 fX11_mixCost_c27
    rw [X_needArgument0, xct_r]
  unfold fX11_mixCost bnd
  rw [X_isWithin, xc2_t, x_i10]
  by_cases a : 0 ≤ p0 ∧ p0 ≤ 200
  · rw [if_pos a, X_isWithin, xc2_t, x_i10]
    by_cases b : p0 ≤ p1 ∧ p1 ≤ 200
    · rw [if_pos b]; exact ⟨fun _ => rfl, fun h9 => absurd ⟨a, b⟩ h9⟩
    · rw [if_neg b]; exact ⟨fun h9 => absurd h9.2 b, fun _ => e0⟩
  · rw [if_neg a]; exact ⟨fun h9 => absurd h9.1 a, fun _ => e0⟩
theorem X_mixS0 (p0 p1 p2 p3 : Int32) (σ : xSt) : (bnd p0 p1 → 0 ≤ p2 ∧ p2 ≤ 3 → fX11_mixShare p0 p1 p2 p3 σ = fX11_mixShare_c36 p0 p1 p2 p3 1 σ) ∧ (¬ bnd p0 p1 → 0 ≤ p2 ∧ p2 ≤ 3 → fX11_mixShare p0 p1 p2 p3 σ = some (.inr 1, σ)) ∧ (¬ (0 ≤ p2 ∧ p2 ≤ 3) → fX11_mixShare p0 p1 p2 p3 σ = some (.inr 0, σ)) := by
  have e0 : fX11_mixShare_c35 p0 p1 p2 p3 σ = some (.inr 1, σ) := by
    unfold fX11_mixShare_c35 fX11_mixShare_c36
    rw [X_needArgument0, xct_r]
  unfold fX11_mixShare bnd
  rw [X_isWithin, xc2_t]
  by_cases c : 0 ≤ p2 ∧ p2 ≤ 3
  · rw [if_pos c, X_needIndex1, xct_l, X_isWithin, xc2_t, x_i10]
    by_cases a : 0 ≤ p0 ∧ p0 ≤ 200
    · rw [if_pos a, X_isWithin, xc2_t, x_i10]
      by_cases b : p0 ≤ p1 ∧ p1 ≤ 200
      · rw [if_pos b]; exact ⟨fun _ _ => rfl, fun h9 => absurd ⟨a, b⟩ h9, fun h9 => absurd c h9⟩
      · rw [if_neg b]; exact ⟨fun h9 => absurd h9.2 b, fun _ _ => e0, fun h9 => absurd c h9⟩
    · rw [if_neg a]; exact ⟨fun h9 => absurd h9.1 a, fun _ _ => e0, fun h9 => absurd c h9⟩
  · rw [if_neg c, X_needIndex0, xct_r]
    exact ⟨fun _ h9 => absurd h9 c, fun _ h9 => absurd h9 c, fun _ => rfl⟩