/-! ===== AMOUNTS, MIX ===== -/
def lastOf : Nat → Int32
  | 0 => -1
  | k + 1 => nI k
theorem lastOf_lt {k i : Nat} (hk : k < 1000) (hi : i < 1000) : lastOf k < nI i ↔ k ≤ i := by
  cases k with
  | zero =>
    show (-1 : Int32) < nI i ↔ _
    rw [fa_lt, nI_toInt (by omega), show (-1 : Int32).toInt = -1 from by decide]
    omega
  | succ k =>
    show nI k < nI i ↔ _
    rw [nI_ltI (by omega) (by omega)]
    omega
theorem lastOf_pred {k : Nat} : nI k - 1 = lastOf k := by
  cases k with
  | zero => decide
  | succ k => exact nI_pred k
/-- the parts of the goods below k -/
def pu (s : sS) (r k : Nat) : Int32 := s32 (fun j => s (55 + (8 * r + j))) k
def up64 (s : sS) (r : Nat) (g : Int32) (k : Nat) : Int64 := (g.toInt64 * (pu s r k).toInt64) / (pu s r 8).toInt64
/-- what a good gets of g grams -/
def amt (s : sS) (r : Nat) (g : Int32) (k : Nat) : Int32 := (up64 s r g (k + 1)).toInt32 - (up64 s r g k).toInt32
theorem up64_0 (s : sS) (r : Nat) (g : Int32) : up64 s r g 0 = 0 := by
  unfold up64
  rw [show pu s r 0 = 0 from rfl, show (0 : Int32).toInt64 = 0 from rfl, Int64.mul_zero, Int64.zero_div]
theorem pu_ne {s : sS} {r : Nat} (h : 0 < pu s r 8) : ¬ (pu s r 8).toInt64 = 0 := by
  intro h9
  rw [fa_lt] at h
  have := congrArg Int64.toInt h9
  rw [Int32.toInt_toInt64] at this
  rw [show (0 : Int64).toInt = 0 from rfl] at this
  rw [show (0 : Int32).toInt = 0 from rfl] at h
  omega
theorem X_parts0 {σ : xSt} {H : List sS} {s : sS} {tx : (Nat → Int32) × Nat} (h : RX σ (H, s, tx)) {r k : Nat} (hr : r < 6) (hk : k ≤ 8) : ∀ (d i n : Nat), i + d = k → d < n → fX8_partsUpTo_c5 n (nI r) (lastOf k) (s32 (fun j => s (55 + (8 * r + j))) i) (nI i) σ = some (pu s r k, σ) := by
  intro d
  induction d with
  | zero =>
    intro i n hi hn
    obtain ⟨n, rfl⟩ : ∃ z, n = z + 1 := ⟨n - 1, by omega⟩
    obtain rfl : i = k := by omega
    rw [fX8_partsUpTo_c5_s, if_pos ((lastOf_lt (by omega) (by omega)).mpr (Nat.le_refl _))]
    rfl
  | succ d ih =>
    intro i n hi hn
    obtain ⟨n, rfl⟩ : ∃ z, n = z + 1 := ⟨n - 1, by omega⟩
    have e := ih (i + 1) n (by omega) (by omega)
    have a2 : σ 11 (8 * r + i) = s (55 + (8 * r + i)) := X_at_parts h (by omega)
    rw [fX8_partsUpTo_c5_s, if_neg (fun h9 => absurd ((lastOf_lt (by omega) (by omega)).mp h9) (by omega)), show (8 : Int32) = nI 8 from rfl, nI_mul, Nat.mul_comm r 8, nI_add, xr_n (by omega) (by decide), a2, xl_t, xl_t, nI_1]
    exact e
theorem X_partsUpTo {σ : xSt} {H : List sS} {s : sS} {tx : (Nat → Int32) × Nat} (h : RX σ (H, s, tx)) {r k : Nat} (hr : r < 6) (hk : k ≤ 8) : fX8_partsUpTo (nI r) (lastOf k) σ = some (pu s r k, σ) := X_parts0 h hr hk k 0 xFU (by omega) (by show k < 8192; omega)
theorem X_hasParts {σ : xSt} {H : List sS} {s : sS} {tx : (Nat → Int32) × Nat} (h : RX σ (H, s, tx)) {r : Nat} (hr : r < 6) : fX8_hasParts (nI r) σ = some (if pu s r 8 ≤ 0 then 0 else 1, σ) := by
  have e : fX8_partsUpTo (nI r) 7 σ = some (pu s r 8, σ) := X_partsUpTo h (k := 8) hr (by decide)
  unfold fX8_hasParts
  rw [e, xc2_t]
  by_cases g : pu s r 8 ≤ 0
  · rw [if_pos g, if_pos g]
  · rw [if_neg g, if_neg g]
theorem X_scaledUpTo {σ : xSt} {H : List sS} {s : sS} {tx : (Nat → Int32) × Nat} (h : RX σ (H, s, tx)) {r k : Nat} (hr : r < 6) (hk : k ≤ 8) (hp : 0 < pu s r 8) (g : Int32) : fX8_scaledUpTo (nI r) g (lastOf k) σ = some ((up64 s r g k).toInt32, σ) := by
  have e : fX8_partsUpTo (nI r) 7 σ = some (pu s r 8, σ) := X_partsUpTo h (k := 8) hr (by decide)
  unfold fX8_scaledUpTo
  rw [e, xc2_t, if_pos hp, X_partsUpTo h hr hk, xc2_t, xnzl_t (pu_ne hp)]
  rfl
theorem X_scaled {σ : xSt} {H : List sS} {s : sS} {tx : (Nat → Int32) × Nat} (h : RX σ (H, s, tx)) {r k : Nat} (hr : r < 6) (hk : k < 8) (hp : 0 < pu s r 8) (g : Int32) : fX8_scaled (nI r) g (nI k) σ = some (amt s r g k, σ) := by
  have e : fX8_scaledUpTo (nI r) g (nI k) σ = some ((up64 s r g (k + 1)).toInt32, σ) := X_scaledUpTo h hr (k := k + 1) (by omega) hp g
  unfold fX8_scaled
  rw [e, xc2_t, lastOf_pred, X_scaledUpTo h hr (by omega) hp, xc2_t]
  rfl
theorem RM.cell5 {σ : xSt} {H : List sS} {s : sS} {tx : (Nat → Int32) × Nat} {σ' : xSt} (h : RM σ (H, s, tx)) (f : ∀ q, q ≠ 5 → σ' q = σ q) : RM σ' (H, s, tx) := h.frame (f 1 (by decide)) (f 2 (by decide)) (f 3 (by decide)) (by rw [f 0 (by decide)]) (by rw [f 0 (by decide)]) (by rw [f 0 (by decide)])
def sp_amount (p0 : Int32) (p1 : Int32) (p2 : Int32) (a : xA) : xO × xA := if 0 ≤ p0 ∧ p0 ≤ a.2.1 5 - 1 then (if 0 ≤ p2 ∧ p2 ≤ 7 then (if 1 ≤ p1 ∧ p1 ≤ 100000 then (if pu a.2.1 p0.toNatClampNeg 8 ≤ 0 then (.inr 2, a) else (.inl (amt a.2.1 p0.toNatClampNeg p1 p2.toNatClampNeg), a)) else (.inr 1, a)) else (.inr 0, a)) else (.inr 0, a)
theorem X_amount {N : Nat} {σ : xSt} {H : List sS} {s : sS} {tx : (Nat → Int32) × Nat} (h : RX σ (H, s, tx)) (hI : Inv N s) (p0 : Int32) (p1 : Int32) (p2 : Int32) : XR (fX11_amount p0 p1 p2 σ) (sp_amount p0 p1 p2 (H, s, tx)) := by
  have hc := hI.caps
  obtain ⟨hcR, hcD, hcS, hcN, hrec, hE5, hE6, hE7, hE9⟩ := id hc
  unfold fX11_amount sp_amount
  rw [X_needRecipe h]
  show XR (xct (if 0 ≤ p0 ∧ p0 ≤ s 5 - 1 then _ else _) _) (if 0 ≤ p0 ∧ p0 ≤ s 5 - 1 then _ else _)
  by_cases g1 : 0 ≤ p0 ∧ p0 ≤ s 5 - 1
  · rw [if_pos g1, if_pos g1, xct_l, X_needGood]
    obtain ⟨r, hr, rfl⟩ := x_cnt hE5 (by omega) g1
    have hr : r < cR s := hr
    rw [nI_clamp (show r < 2 ^ 31 by omega)]
    by_cases g2 : 0 ≤ p2 ∧ p2 ≤ 7
    · rw [if_pos g2, if_pos g2, xct_l, X_isWithin, xc2_t]
      obtain ⟨k, -, hk, rfl⟩ := x_rng (a := 0) (b := 7) rfl (by decide) (by decide) (by decide) g2
      rw [nI_clamp (show k < 2 ^ 31 by omega)]
      by_cases g3 : 1 ≤ p1 ∧ p1 ≤ 100000
      · rw [if_pos g3, if_pos g3, X_needArgument1, xct_l, X_hasParts h (by omega), xc2_t]
        show XR (xct (fX11_needState (if pu s r 8 ≤ 0 then 0 else 1) σ) _) (if pu s r 8 ≤ 0 then _ else _)
        by_cases g4 : pu s r 8 ≤ 0
        · rw [if_pos g4, if_pos g4, X_needState0, xct_r]
          exact ⟨σ, rfl, h⟩
        · have hp : 0 < pu s r 8 := by rw [fa_lt]; rw [fa_le] at g4; omega
          rw [if_neg g4, if_neg g4, X_needState1, xct_l, X_scaled h (by omega) (by omega) hp, xc2_t]
          exact ⟨σ, rfl, h⟩
      · rw [if_neg g3, if_neg g3, X_needArgument0, xct_r]
        exact ⟨σ, rfl, h⟩
    · rw [if_neg g2, if_neg g2, xct_r]
      exact ⟨σ, rfl, h⟩
  · rw [if_neg g1, if_neg g1, xct_r]
    exact ⟨σ, rfl, h⟩
/-- enough of every good below k -/
def enough (s : sS) (r : Nat) (g : Int32) : Prop := ∀ k, k < 8 → amt s r g k ≤ s (11 + k)
def mixN (s : sS) (r : Nat) (g : Int32) : Nat → sS
  | 0 => s
  | k + 1 => upd (mixN s r g k) (11 + k) (s (11 + k) - amt s r g k)
theorem mixN_ge (s : sS) (r : Nat) (g : Int32) : ∀ (n k : Nat), (k < 11 ∨ 11 + n ≤ k) → mixN s r g n k = s k
  | 0, _, _ => rfl
  | n + 1, k, h => by
    show upd (mixN s r g n) (11 + n) _ k = s k
    rw [upd_ne _ _ (by omega), mixN_ge s r g n k (by omega)]
theorem mixN_caps {s : sS} (hc : caps s) (r : Nat) (g : Int32) : ∀ n, n ≤ 8 → caps (mixN s r g n)
  | 0, _ => hc
  | n + 1, h => (mixN_caps hc r g n (by omega)).upd (by omega) _
theorem s32_mix (s : sS) (r : Nat) (g : Int32) {n : Nat} (hn : n ≤ 8) (q : Nat) : ∀ k, s32 (fun j => mixN s r g n (55 + (8 * q + j))) k = s32 (fun j => s (55 + (8 * q + j))) k := fun k => s32_congr (fun j _ => mixN_ge s r g n _ (by omega))
theorem amt_mix (s : sS) (r : Nat) (g : Int32) {n : Nat} (hn : n ≤ 8) (g2 : Int32) (k : Nat) : amt (mixN s r g n) r g2 k = amt s r g2 k := by
  unfold amt up64 pu
  rw [s32_mix s r g hn, s32_mix s r g hn, s32_mix s r g hn]
theorem X_enough {H : List sS} {s : sS} {tx : (Nat → Int32) × Nat} {σ : xSt} (h : RX σ (H, s, tx)) {r : Nat} (hr : r < 6) (hp : 0 < pu s r 8) (g : Int32) : (enough s r g → fX11_isEnoughFor (nI r) g σ = some (1, σ)) ∧ (¬ enough s r g → fX11_isEnoughFor (nI r) g σ = some (0, σ)) := by
  have loop : ∀ (d i n : Nat), i + d = 8 → d < n → (∀ k, k < i → amt s r g k ≤ s (11 + k)) → (enough s r g → fX11_isEnoughFor_c2 n (nI r) g (nI i) σ = some (1, σ)) ∧ (¬ enough s r g → fX11_isEnoughFor_c2 n (nI r) g (nI i) σ = some (0, σ)) := by
    intro d
    induction d with
    | zero =>
      intro i n hi hn hb
      obtain ⟨n, rfl⟩ : ∃ z, n = z + 1 := ⟨n - 1, by omega⟩
      obtain rfl : i = 8 := by omega
      rw [fX11_isEnoughFor_c2_s, if_pos (by decide)]
      exact ⟨fun _ => rfl, fun h9 => absurd hb h9⟩
    | succ d ih =>
      intro i n hi hn hb
      obtain ⟨n, rfl⟩ : ∃ z, n = z + 1 := ⟨n - 1, by omega⟩
      have a2 : σ 3 i = s (11 + i) := X_at_grams h (by omega)
      rw [fX11_isEnoughFor_c2_s, if_neg (show ¬ (8 : Int32) ≤ nI (i) from nI_ge (a := i) (b := 8) (by omega) (by decide)), xr_n (by omega) (by decide), a2, X_scaled h hr (by omega) hp, xc2_t]
      by_cases g1 : amt s r g i ≤ s (11 + i)
      · rw [if_pos g1, xl_t, nI_1]
        refine ih (i + 1) n (by omega) (by omega) (fun k hk => ?_)
        by_cases z : k = i
        · subst z; exact g1
        · exact hb k (by omega)
      · rw [if_neg g1]
        exact ⟨fun h9 => absurd (h9 i (by omega)) g1, fun _ => rfl⟩
  exact loop 8 0 xFU rfl (by decide) (fun k hk => absurd hk (by omega))
/-- what a mix asks -/
def mixQ (s : sS) (r : Nat) (pc : Int32) : Prop := cD s < 20 ∧ 0 < pu s r 8 ∧ enough s r (pc * s (19 + r))
def mixS (s : sS) (r : Nat) (pc : Int32) : sS :=
  upd (upd (upd (upd (upd (upd (upd (mixN s r (pc * s (19 + r)) 8) 6 (nI (cD s + 1))) (103 + cD s) (nI r)) (123 + cD s) pc) (143 + cD s) 0) (163 + cD s) 0) (183 + cD s) (-1)) (203 + cD s) (-1)
theorem X_mixLoop {H : List sS} {s : sS} {tx : (Nat → Int32) × Nat} (hc : caps s) (hH : ∀ x ∈ H, cle x s) {r : Nat} (hr : r < cR s) (hlt : cD s < 20) (pc : Int32) (hp : 0 < pu s r 8) : ∀ (d i n : Nat) (σ : xSt), i + d = 8 → d < n → RX σ (H, mixN s r (pc * s (19 + r)) i, tx) → ∃ σ', fX11_mix_c74 n (nI r) pc (pc * s (19 + r)) (nI i) σ = some (.inl (nI (cD s)), σ') ∧ RX σ' (H, mixS s r pc, tx) := by
  have hcR := hc.1
  intro d
  induction d with
  | zero =>
    intro i n σ hi hn h
    obtain ⟨n, rfl⟩ : ∃ z, n = z + 1 := ⟨n - 1, by omega⟩
    obtain rfl : i = 8 := by omega
    have c8 := mixN_caps hc r (pc * s (19 + r)) 8 (Nat.le_refl _)
    have eD : cD (mixN s r (pc * s (19 + r)) 8) = cD s := by unfold cD; rw [mixN_ge _ _ _ _ _ (by omega)]
    have eR : cR (mixN s r (pc * s (19 + r)) 8) = cR s := by unfold cR; rw [mixN_ge _ _ _ _ _ (by omega)]
    have eS : cS (mixN s r (pc * s (19 + r)) 8) = cS s := by unfold cS; rw [mixN_ge _ _ _ _ _ (by omega)]
    have eN : ∀ q, cN (mixN s r (pc * s (19 + r)) 8) q = cN s q := fun q => by unfold cN; rw [mixN_ge _ _ _ _ _ (by omega)]
    have e19 : mixN s r (pc * s (19 + r)) 8 (19 + r) = s (19 + r) := mixN_ge _ _ _ _ _ (by omega)
    have hH2 : ∀ x ∈ H, cle x (mixN s r (pc * s (19 + r)) 8) := fun x hx => by
      have := hH x hx
      unfold cle at this ⊢
      rw [eR, eD, eS]
      exact ⟨this.1, this.2.1, this.2.2.1, fun q hq => by rw [eN]; exact this.2.2.2 q hq⟩
    have a1 : σ 12 7 = nI (cD s) := (X_at_ndough h).trans (c8.2.2.2.2.2.2.1.trans (by rw [eD]))
    have h2 := X_push_dough h c8 (by rw [eD]; exact hlt) hH2 (rc := r) (by rw [eR]; exact hr) pc
    rw [eD, e19] at h2
    have a2 : xu (xu (xu (xu (xu (xu (xu σ 13 (cD s) (nI r)) 14 (cD s) pc) 15 (cD s) (pc * s (19 + r))) 16 (cD s) 0) 17 (cD s) 0) 18 (cD s) (-1)) 19 (cD s) (-1) 12 7 = nI (cD s) := by simp (disch := omega) only [xu_ne]; exact a1
    rw [fX11_mix_c74_s, if_pos (by decide)]
    unfold fX2_add
    rw [xl_t, a1, xs_n (by omega) (by decide), xs_n (by omega) (by decide), xs_n (by omega) (by decide), xs_n (by omega) (by decide), xs_n (by omega) (by decide), xs_n (by omega) (by decide), xs_n (by omega) (by decide), xp_t, a2, nI_1, xc2_t]
    exact ⟨_, rfl, h2⟩
  | succ d ih =>
    intro i n σ hi hn h
    obtain ⟨n, rfl⟩ : ∃ z, n = z + 1 := ⟨n - 1, by omega⟩
    have ci := mixN_caps hc r (pc * s (19 + r)) i (by omega)
    have a2 : σ 3 i = s (11 + i) := (X_at_grams h (by omega)).trans (mixN_ge _ _ _ _ _ (by omega))
    have hp2 : 0 < pu (mixN s r (pc * s (19 + r)) i) r 8 := by unfold pu; rw [s32_mix _ _ _ (by omega)]; exact hp
    have h2 := X_set_grams h ci (show i < 8 by omega) (s (11 + i) - amt s r (pc * s (19 + r)) i)
    obtain ⟨σ', e, h3⟩ := ih (i + 1) n _ (by omega) (by omega) h2
    refine ⟨σ', ?_, h3⟩
    rw [fX11_mix_c74_s, if_neg (show ¬ (8 : Int32) ≤ nI (i) from nI_ge (a := i) (b := 8) (by omega) (by decide)), xr_n (by omega) (by decide), a2, X_scaled h (by omega) (by omega) hp2, xc2_t, amt_mix _ _ _ (by omega), xs_n (by omega) (by decide), xl_t, nI_1]
    exact e