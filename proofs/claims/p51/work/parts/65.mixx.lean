/-! ===== THE CHEAPEST MIX: the class ===== -/
theorem i64m (a b : Int32) : (a.toInt64 * b.toInt64).toInt = a.toInt * b.toInt := by
  have h1 := a.toInt_lt
  have h2 := a.le_toInt
  have h3 := b.toInt_lt
  have h4 := b.le_toInt
  have p := mulAbs (a := a.toInt) (b := b.toInt) (A := 2147483648) (B := 2147483648) (by omega) (by omega) (by omega) (by omega)
  rw [Int64.toInt_mul, Int32.toInt_toInt64, Int32.toInt_toInt64]
  exact Int.bmod_eq_of_le (by omega) (by omega)
def bS (q f : Nat) : Bool := decide (q / 2 ^ f % 2 = 1)
theorem bit_fin : ∀ q, q < 16 → ∀ f, f < 4 → ((((nI q) >>> ((nI f) &&& 31)) &&& 1) = 0 ↔ ¬ q / 2 ^ f % 2 = 1) := by decide +kernel
theorem X_isIn {q f : Nat} (hq : q < 16) (hf : f < 4) (σ : xSt) : fX3_isIn (nI q) (nI f) σ = some (if bS q f = true then 1 else 0, σ) := by
  unfold fX3_isIn
  by_cases c : bS q f = true
  · rw [if_pos c, if_neg (fun h9 => (bit_fin q hq f hf).mp h9 (of_decide_eq_true c))]
  · rw [if_neg c, if_pos ((bit_fin q hq f hf).mpr (fun h9 => c (decide_eq_true h9)))]
def xBst (σ : xSt) : Option Cd → Prop
  | none => σ 29 4 = 0
  | some b => cb b ∧ (σ 29 4).toInt = 100 * b.2 ∧ ∀ f, f < 4 → (σ 33 f).toInt = b.1 f
def XB (s : sS) (lo hi : Int) (σ : xSt) (T : Cd → Prop) : Prop := ∃ b, xBst σ b ∧ Mn s lo hi T b
def xcand (σ : xSt) (c : Cd) : Prop := (σ 29 6).toInt = 100 * c.2 ∧ ∀ f, f < 4 → (σ 34 f).toInt = c.1 f
theorem XB.iff {s : sS} {lo hi : Int} {σ : xSt} {T T' : Cd → Prop} (h : XB s lo hi σ T) (e : ∀ c, T c ↔ T' c) : XB s lo hi σ T' := by
  obtain ⟨b, h1, h2⟩ := h
  exact ⟨b, h1, Mn_iff e b h2⟩
theorem XB.frame {s : sS} {lo hi : Int} {σ σ' : xSt} {T : Cd → Prop} (h : XB s lo hi σ T) (h1 : σ' 33 = σ 33) (h2 : σ' 29 4 = σ 29 4) : XB s lo hi σ' T := by
  obtain ⟨b, g1, g2⟩ := h
  refine ⟨b, ?_, g2⟩
  cases b with
  | none => show σ' 29 4 = 0; rw [h2]; exact g1
  | some b => show cb b ∧ (σ' 29 4).toInt = 100 * b.2 ∧ ∀ f, f < 4 → (σ' 33 f).toInt = b.1 f; rw [h1, h2]; exact g1
theorem X_isMix {N : Nat} {σ : xSt} {H : List sS} {s : sS} {tx : (Nat → Int32) × Nat} (h : RX σ (H, s, tx)) (hI : Inv N s) {c : Cd} (hc : cb c) (hx : xcand σ c) {p0 p1 : Int32} (h0 : bt p0 0 200) (h1 : bt p1 0 200) : ∀ (d f n : Nat) (a : Int32), f + d = 4 → d < n → (∀ k, k < f → 0 ≤ c.1 k ∧ c.1 k ≤ cpI s k * c.2) → a.toInt = sumI (fun k => c.1 k * stI s k) f → 0 ≤ a.toInt → a.toInt ≤ 4000000 * f → (feas s p0.toInt p1.toInt c → fX3_isMix_c5 n p0 p1 a (nI f) σ = some (1, σ)) ∧ (¬ feas s p0.toInt p1.toInt c → fX3_isMix_c5 n p0 p1 a (nI f) σ = some (0, σ)) := by
  obtain ⟨c0, c200, cbd, csum⟩ := id hc
  obtain ⟨x6, x34⟩ := id hx
  unfold bt at h0 h1
  intro d
  induction d with
  | zero =>
    intro f n a hf hn hk ha ha0 ha1
    obtain ⟨n, rfl⟩ : ∃ z, n = z + 1 := ⟨n - 1, by omega⟩
    obtain rfl : f = 4 := by omega
    have mm : ∀ p : Int32, 0 ≤ p.toInt ∧ p.toInt ≤ 200 → (p * σ 29 6).toInt = 100 * p.toInt * c.2 := fun p hp => by
      have b := mulNN (a := p.toInt) (b := 100 * c.2) (A := 200) (B := 20000) hp.1 hp.2 (by omega) (by omega)
      rw [i32_mul (by rw [x6]; omega) (by rw [x6]; omega), x6, Int.mul_left_comm, Int.mul_assoc]
    have e : (p0 * σ 29 6 ≤ a ∧ a ≤ p1 * σ 29 6) ↔ feas s p0.toInt p1.toInt c := by
      rw [fa_le, fa_le, mm p0 h0, mm p1 h1, ha]
      exact ⟨fun h9 => ⟨c0, hk, csum, h9.1, h9.2⟩, fun h9 => ⟨h9.2.2.2.1, h9.2.2.2.2⟩⟩
    rw [fX3_isMix_c5_s, if_pos (show (4 : Int32) ≤ nI 4 by decide), X_isWithin, xc2_t, xb_t x10b]
    exact ⟨fun h9 => by rw [if_pos (e.mpr h9)], fun h9 => by rw [if_neg (fun h8 => h9 (e.mp h8))]⟩
  | succ d ih =>
    intro f n a hf hn hk ha ha0 ha1
    obtain ⟨n, rfl⟩ : ∃ z, n = z + 1 := ⟨n - 1, by omega⟩
    have hf4 : f < 4 := by omega
    have e34 := x34 f hf4
    have bd := cbd f hf4
    have fb := fl_b hI hf4
    have a32 : σ 32 f = s (255 + f) := X_at_cap h hf4
    have a30 : σ 30 f = s (247 + f) := X_at_strength h hf4
    rw [fX3_isMix_c5_s, if_neg (show ¬ (4 : Int32) ≤ nI f from nI_ge (a := f) (b := 4) (by omega) (by decide)), xr_n (by omega) (by decide)]
    by_cases c1 : c.1 f < 0
    · rw [if_pos (show σ 34 f < 0 from (fa_lt _ _).mpr (by rw [e34]; exact c1))]
      exact ⟨fun h9 => absurd (h9.2.1 f hf4).1 (by omega), fun _ => rfl⟩
    · rw [if_neg (show ¬ σ 34 f < 0 from fun h9 => by rw [fa_lt, e34] at h9; exact c1 h9), xr_n (by omega) (by decide), xr_n (by omega) (by decide), a32]
      have b1 := mulNN (a := cpI s f) (b := c.2) (A := 100) (B := 200) (by omega) (by omega) (by omega) (by omega)
      have b2 := mulNN (a := cpI s f) (b := 100 * c.2) (A := 100) (B := 20000) (by omega) (by omega) (by omega) (by omega)
      have m1 : (100 * σ 34 f).toInt = 100 * c.1 f := by
        rw [i32_mul (by rw [e34]; show _ ≤ (100 : Int) * _; omega) (by rw [e34]; show (100 : Int) * _ < _; omega), e34]; rfl
      have m2 : (s (255 + f) * σ 29 6).toInt = 100 * (cpI s f * c.2) := by
        rw [i32_mul (by rw [x6]; show _ ≤ cpI s f * _; omega) (by rw [x6]; show cpI s f * _ < _; omega), x6]
        exact Int.mul_left_comm _ _ _
      by_cases c2 : c.1 f ≤ cpI s f * c.2
      · rw [if_pos (show 100 * σ 34 f ≤ s (255 + f) * σ 29 6 from (fa_le _ _).mpr (by rw [m1, m2]; omega)), xr_n (by omega) (by decide), xr_n (by omega) (by decide), a30, xl_t, xl_t, nI_1]
        have b3 := mulNN (a := c.1 f) (b := stI s f) (A := 20000) (B := 200) (by omega) (by omega) (by omega) (by omega)
        have m3 : (σ 34 f * s (247 + f)).toInt = c.1 f * stI s f := by
          rw [i32_mul (by rw [e34]; show _ ≤ _ * stI s f; omega) (by rw [e34]; show _ * stI s f < _; omega), e34]; rfl
        have m4 : (a + σ 34 f * s (247 + f)).toInt = a.toInt + c.1 f * stI s f := by
          rw [i32_add (by rw [m3]; omega) (by rw [m3]; omega), m3]
        refine ih (f + 1) n _ (by omega) (by omega) (fun k hk2 => ?_) ?_ (by rw [m4]; omega) (by rw [m4]; omega)
        · by_cases e : k = f
          · rw [e]; exact ⟨by omega, c2⟩
          · exact hk k (by omega)
        · rw [m4, ha]; rfl
      · rw [if_neg (show ¬ 100 * σ 34 f ≤ s (255 + f) * σ 29 6 from fun h9 => by rw [fa_le, m1, m2] at h9; omega)]
        exact ⟨fun h9 => absurd (h9.2.1 f hf4).2 c2, fun _ => rfl⟩
theorem X_costOf {N : Nat} {σ : xSt} {H : List sS} {s : sS} {tx : (Nat → Int32) × Nat} (h : RX σ (H, s, tx)) (hI : Inv N s) {q0 : Nat} {v : Nat → Int} (hv : ∀ f, f < 4 → (σ q0 f).toInt = v f ∧ -200000 ≤ v f ∧ v f ≤ 200000) : ∀ (d f n : Nat) (a : Int32), f + d = 4 → d < n → a.toInt = sumI (fun k => v k * ctI s k) f → -199800000 * (f : Int) ≤ a.toInt → a.toInt ≤ 199800000 * f → ∃ r, fX3_costOf_c4 q0 n a (nI f) σ = some (r, σ) ∧ r.toInt = sumI (fun k => v k * ctI s k) 4 := by
  intro d
  induction d with
  | zero =>
    intro f n a hf hn ha ha0 ha1
    obtain ⟨n, rfl⟩ : ∃ z, n = z + 1 := ⟨n - 1, by omega⟩
    obtain rfl : f = 4 := by omega
    rw [fX3_costOf_c4_s, if_pos (show (4 : Int32) ≤ nI 4 by decide)]
    exact ⟨a, rfl, ha⟩
  | succ d ih =>
    intro f n a hf hn ha ha0 ha1
    obtain ⟨n, rfl⟩ : ∃ z, n = z + 1 := ⟨n - 1, by omega⟩
    have hf4 : f < 4 := by omega
    obtain ⟨e, v1, v2⟩ := hv f hf4
    have fb := fl_b hI hf4
    have a31 : σ 31 f = s (251 + f) := X_at_cost h hf4
    have b3 := mulAbs (a := v f) (b := ctI s f) (A := 200000) (B := 999) (by omega) (by omega) (by omega) (by omega)
    have m3 : (σ q0 f * s (251 + f)).toInt = v f * ctI s f := by
      rw [i32_mul (by rw [e]; show _ ≤ _ * ctI s f; omega) (by rw [e]; show _ * ctI s f < _; omega), e]; rfl
    have m4 : (a + σ q0 f * s (251 + f)).toInt = a.toInt + v f * ctI s f := by
      rw [i32_add (by rw [m3]; omega) (by rw [m3]; omega), m3]
    rw [fX3_costOf_c4_s, if_neg (show ¬ (4 : Int32) ≤ nI f from nI_ge (a := f) (b := 4) (by omega) (by decide)), xr_n (by omega) (by decide), xr_n (by omega) (by decide), a31, xl_t, xl_t, nI_1]
    exact ih (f + 1) n _ (by omega) (by omega) (by rw [m4, ha]; rfl) (by rw [m4]; omega) (by rw [m4]; omega)
theorem X_cmpBest (p0 p1 : Int32) (σ : xSt) : ∃ r, fX3_compareToBest p0 p1 σ = some (r, σ) ∧ (r = 0 ↔ p0.toInt * (σ 29 4).toInt = p1.toInt * (σ 29 6).toInt) ∧ (r < 0 ↔ p0.toInt * (σ 29 4).toInt < p1.toInt * (σ 29 6).toInt) := by
  have hx := i64m p0 (σ 29 4)
  have hy := i64m p1 (σ 29 6)
  unfold fX3_compareToBest fJ13_compare_74951
  rw [← hx, ← hy]
  generalize p0.toInt64 * (σ 29 4).toInt64 = x
  generalize p1.toInt64 * (σ 29 6).toInt64 = y
  by_cases g : y.toInt ≤ x.toInt
  · rw [if_pos ((lg_cmp_ge x y).mpr (Int64.le_iff_toInt_le.mpr g))]
    by_cases g2 : x.toInt = y.toInt
    · rw [if_pos ((lg_cmp_eq x y).mpr (Int64.toInt_inj.mp g2)), xc2_t]
      exact ⟨0, rfl, ⟨fun _ => g2, fun _ => rfl⟩, ⟨fun h9 => absurd h9 (by decide), fun h9 => by omega⟩⟩
    · rw [if_neg (fun h9 => g2 (Int64.toInt_inj.mpr ((lg_cmp_eq x y).mp h9))), xc2_t]
      exact ⟨1, rfl, ⟨fun h9 => absurd h9 (by decide), fun h9 => absurd h9 g2⟩, ⟨fun h9 => absurd h9 (by decide), fun h9 => by omega⟩⟩
  · rw [if_neg (fun h9 => g (Int64.le_iff_toInt_le.mp ((lg_cmp_ge x y).mp h9))), xc2_t]
    exact ⟨-1, rfl, ⟨fun h9 => absurd h9 (by decide), fun h9 => by omega⟩, ⟨fun _ => by omega, fun _ => by decide⟩⟩
theorem X_cmpKey {s : sS} {σ : xSt} {c b : Cd} (hx : (σ 29 6).toInt = 100 * c.2) (h4 : (σ 29 4).toInt = 100 * b.2) {p0 p1 : Int32} {k : Nat} (e0 : p0.toInt = keyC s c k) (e1 : p1.toInt = keyC s b k) : ∃ r, fX3_compareToBest p0 p1 σ = some (r, σ) ∧ (r = 0 ↔ keyC s c k * b.2 = keyC s b k * c.2) ∧ (r < 0 ↔ keyC s c k * b.2 < keyC s b k * c.2) := by
  obtain ⟨r, g1, g2, g3⟩ := X_cmpBest p0 p1 σ
  rw [e0, e1, hx, h4, Int.mul_left_comm, Int.mul_left_comm (keyC s b k)] at g2 g3
  exact ⟨r, g1, g2.trans (by omega), g3.trans (by omega)⟩
theorem X_betterLoop {s : sS} {σ : xSt} {c b : Cd} (hx : xcand σ c) (h4 : (σ 29 4).toInt = 100 * b.2) (h33 : ∀ f, f < 4 → (σ 33 f).toInt = b.1 f) : ∀ (d k n : Nat) (r : Int32), k + d = 4 → d < n → (∀ j, j < k → keyC s c j * b.2 = keyC s b j * c.2) → (r = 0 ↔ keyC s c k * b.2 = keyC s b k * c.2) → (r < 0 ↔ keyC s c k * b.2 < keyC s b k * c.2) → (ltC s c b → fX3_isBetter_c23 n r (nI k) σ = some (1, σ)) ∧ (¬ ltC s c b → fX3_isBetter_c23 n r (nI k) σ = some (0, σ)) := by
  have fin : ∀ (k : Nat) (r : Int32), k < 5 → (r ≠ 0 ∨ k = 4) → (∀ j, j < k → keyC s c j * b.2 = keyC s b j * c.2) → (r = 0 ↔ keyC s c k * b.2 = keyC s b k * c.2) → (r < 0 ↔ keyC s c k * b.2 < keyC s b k * c.2) → (ltC s c b → fX3_isBetter_c55 r σ = some (1, σ)) ∧ (¬ ltC s c b → fX3_isBetter_c55 r σ = some (0, σ)) := by
    intro k r hk hr he h0 hl
    have e : ltC s c b ↔ r < 0 := by
      constructor
      · intro ⟨k', g1, g2, g3⟩
        rcases Nat.lt_trichotomy k' k with h | h | h
        · have := he k' h; omega
        · rw [h] at g3; exact hl.mpr g3
        · rcases hr with hr | hr
          · exact absurd (h0.mpr (g2 k h)) hr
          · omega
      · intro h9
        exact ⟨k, hk, he, hl.mp h9⟩
    have hz : (0 : Int32).toInt = 0 := by decide
    unfold fX3_isBetter_c55
    constructor
    · intro h9
      rw [if_neg (show ¬ (0 : Int32) ≤ r from fun h8 => by
        have h7 := e.mp h9
        rw [fa_le] at h8
        rw [fa_lt] at h7
        omega)]
    · intro h9
      rw [if_pos (show (0 : Int32) ≤ r from by
        have h7 : ¬ r < 0 := fun h8 => h9 (e.mpr h8)
        rw [fa_lt] at h7
        rw [fa_le]
        omega)]
  intro d
  induction d with
  | zero =>
    intro k n r hk hn he h0 hl
    obtain ⟨n, rfl⟩ : ∃ z, n = z + 1 := ⟨n - 1, by omega⟩
    obtain rfl : k = 4 := by omega
    rw [fX3_isBetter_c23_s, if_pos (show (4 : Int32) ≤ nI 4 by decide)]
    exact fin 4 r (by decide) (Or.inr rfl) he h0 hl
  | succ d ih =>
    intro k n r hk hn he h0 hl
    obtain ⟨n, rfl⟩ : ∃ z, n = z + 1 := ⟨n - 1, by omega⟩
    rw [fX3_isBetter_c23_s, if_neg (show ¬ (4 : Int32) ≤ nI k from nI_ge (a := k) (b := 4) (by omega) (by decide))]
    by_cases c0 : r = 0
    · rw [if_pos c0, xr_n (by omega) (by decide), xr_n (by omega) (by decide)]
      obtain ⟨r', g1, g2, g3⟩ := X_cmpKey (s := s) (c := c) (b := b) hx.1 h4 (p0 := σ 34 k) (p1 := σ 33 k) (k := k + 1) (by rw [hx.2 k (by omega)]; rfl) (by rw [h33 k (by omega)]; rfl)
      rw [g1, xc2_t, xl_t, nI_1]
      refine ih (k + 1) n r' (by omega) (by omega) (fun j hj => ?_) g2 g3
      by_cases e : j = k
      · rw [e]; exact h0.mp c0
      · exact he j (by omega)
    · rw [if_neg c0]
      exact fin k r (by omega) (Or.inl c0) he h0 hl
theorem X_isBetter {N : Nat} {σ : xSt} {H : List sS} {s : sS} {tx : (Nat → Int32) × Nat} (h : RX σ (H, s, tx)) (hI : Inv N s) {c b : Cd} (hc : cb c) (hb : cb b) (hx : xcand σ c) (h4 : (σ 29 4).toInt = 100 * b.2) (h33 : ∀ f, f < 4 → (σ 33 f).toInt = b.1 f) : (ltC s c b → fX3_isBetter σ = some (1, σ)) ∧ (¬ ltC s c b → fX3_isBetter σ = some (0, σ)) := by
  obtain ⟨r1, e1, k1⟩ := X_costOf h hI (q0 := 34) (v := c.1) (fun f hf => ⟨hx.2 f hf, hc.2.2.1 f hf⟩) 4 0 xFU 0 rfl (by decide) rfl (by decide) (by decide)
  obtain ⟨r2, e2, k2⟩ := X_costOf h hI (q0 := 33) (v := b.1) (fun f hf => ⟨h33 f hf, hb.2.2.1 f hf⟩) 4 0 xFU 0 rfl (by decide) rfl (by decide) (by decide)
  obtain ⟨r3, g1, g2, g3⟩ := X_cmpKey (s := s) (c := c) (b := b) hx.1 h4 (p0 := r1) (p1 := r2) (k := 0) k1 k2
  unfold fX3_isBetter fX3_costOf
  rw [show fX3_costOf_c4 34 xFU 0 0 σ = some (r1, σ) from e1, xc2_t, show fX3_costOf_c4 33 xFU 0 0 σ = some (r2, σ) from e2, xc2_t, g1, xc2_t]
  exact X_betterLoop hx h4 h33 4 0 xFU r3 rfl (by decide) (fun j hj => absurd hj (Nat.not_lt_zero j)) g2 g3
theorem X_keepBetter {N : Nat} {σ : xSt} {H : List sS} {s : sS} {tx : (Nat → Int32) × Nat} (h : RX σ (H, s, tx)) (hI : Inv N s) {c : Cd} (hc : cb c) (hx : xcand σ c) {p0 p1 : Int32} (h0 : bt p0 0 200) (h1 : bt p1 0 200) {T : Cd → Prop} (hB : XB s p0.toInt p1.toInt σ T) : ∃ σ', fX3_keepIfBetter p0 p1 σ = some σ' ∧ RX σ' (H, s, tx) ∧ XB s p0.toInt p1.toInt σ' (fun x => T x ∨ x = c) ∧ fX σ σ' := by
  obtain ⟨b, hb, hM⟩ := hB
  have mix := X_isMix h hI hc hx h0 h1 4 0 xFU 0 rfl (by decide) (fun k hk => absurd hk (Nat.not_lt_zero k)) rfl (by decide) (by decide)
  unfold fX3_keepIfBetter fX3_isMix
  by_cases hf : feas s p0.toInt p1.toInt c
  · rw [show fX3_isMix_c5 xFU p0 p1 0 0 σ = some (1, σ) from mix.1 hf, xc2_t, if_neg (show ¬ (1 : Int32) = 0 by decide)]
    have new : Mn s p0.toInt p1.toInt (fun x => T x ∨ x = c) (some c) → ∃ σ', fX3_keepIfBetter_c23 σ = some σ' ∧ RX σ' (H, s, tx) ∧ XB s p0.toInt p1.toInt σ' (fun x => T x ∨ x = c) ∧ fX σ σ' := fun hN => by
      unfold fX3_keepIfBetter_c23
      have f1 : fX σ (xcp σ 34 33 0 0 4) := fX.one 33 (by decide) (by decide) (fun q hq => xcp_ne _ hq)
      have f2 : fX σ (xu (xcp σ 34 33 0 0 4) 29 4 (xcp σ 34 33 0 0 4 29 6)) := f1.xu 29 4 _ (by decide) (fun h9 => absurd h9 (by decide))
      refine ⟨xu (xcp σ 34 33 0 0 4) 29 4 (xcp σ 34 33 0 0 4 29 6), ?_, h.scr f2, ⟨some c, ⟨hc, ?_, fun f hf4 => ?_⟩, hN⟩, f2⟩
      · show xcpy σ 34 4 (nI 0) 33 4 (nI 0) (nI 4) _ = _
        rw [xcpy_n (by decide) (by decide) (by decide) (by decide), xp_t]
      · rw [xu_at, upd_at, xcp_ne _ (by decide)]; exact hx.1
      · rw [xu_ne _ _ _ (by decide), xcp_at]
        unfold va_cpy
        rw [if_pos (by omega), show 0 + (f - 0) = f by omega]
        exact hx.2 f hf4
    cases b with
    | none =>
      have hb : σ 29 4 = 0 := hb
      rw [if_pos hb]
      exact new (Mn_first hf hM)
    | some b =>
      obtain ⟨cbb, h4, h33⟩ := hb
      have hb0 := cbb.1
      rw [if_neg (show ¬ σ 29 4 = 0 from fun h9 => by rw [fa_eq, h4] at h9; have h9 : 100 * b.2 = (0 : Int) := h9; omega)]
      have bet := X_isBetter h hI hc cbb hx h4 h33
      by_cases l : ltC s c b
      · rw [bet.1 l, xc2_t, if_neg (show ¬ (1 : Int32) = 0 by decide)]
        exact new (Mn_new hf l hM)
      · rw [bet.2 l, xc2_t, if_pos rfl]
        exact ⟨σ, rfl, h, ⟨some b, ⟨cbb, h4, h33⟩, Mn_keep l hM⟩, fX.refl σ⟩
  · rw [show fX3_isMix_c5 xFU p0 p1 0 0 σ = some (0, σ) from mix.2 hf, xc2_t, if_pos rfl]
    exact ⟨σ, rfl, h, ⟨b, hb, Mn_skip hf b hM⟩, fX.refl σ⟩
theorem X_one {N : Nat} {H : List sS} {s : sS} {tx : (Nat → Int32) × Nat} (hI : Inv N s) {q i : Nat} (hq : q < 16) (hi : i < 4) : ∀ (d f n : Nat) (σ : xSt) (a : Int32), f + d = 4 → d < n → RX σ (H, s, tx) → (∀ k, k < f → (σ 34 k).toInt = eS s (bS q) k) → a.toInt = 100 - sumI (eS s (bS q)) f → ∃ σ', fX3_tryOneFree_c6 n (nI q) (nI i) a (nI f) σ = some σ' ∧ RX σ' (H, s, tx) ∧ xcand σ' (oneC s (bS q) i) ∧ fX σ σ' ∧ σ' 33 = σ 33 ∧ σ' 29 4 = σ 29 4 := by
  intro d
  induction d with
  | zero =>
    intro f n σ a hf hn h hk ha
    obtain ⟨n, rfl⟩ : ∃ z, n = z + 1 := ⟨n - 1, by omega⟩
    obtain rfl : f = 4 := by omega
    rw [fX3_tryOneFree_c6_s, if_pos (show (4 : Int32) ≤ nI 4 by decide), xs_n (by omega) (by decide), xp_t]
    have f2 : fX σ (xu (xu σ 34 i a) 29 6 100) := ((fX.refl σ).xu 34 i _ (by decide) (fun h9 => absurd h9 (by decide))).xu 29 6 _ (by decide) (fun h9 => absurd h9 (by decide))
    refine ⟨_, rfl, h.scr f2, ⟨by rw [xu_at, upd_at]; rfl, fun f hf4 => ?_⟩, f2, by rw [xu_ne _ _ _ (by decide), xu_ne _ _ _ (by decide)], by rw [xu_at, upd_ne _ _ (by decide), xu_ne _ _ _ (by decide)]⟩
    rw [xu_ne _ _ _ (by decide), xu_at]
    show _ = if f = i then 100 - sumI (eS s (bS q)) 4 else eS s (bS q) f
    by_cases e : f = i
    · rw [if_pos e, e, upd_at, ha]
    · rw [if_neg e, upd_ne _ _ e]; exact hk f hf4
  | succ d ih =>
    intro f n σ a hf hn h hk ha
    obtain ⟨n, rfl⟩ : ∃ z, n = z + 1 := ⟨n - 1, by omega⟩
    have hf4 : f < 4 := by omega
    have hs := eS_sums hI (bS q) f (by omega)
    have eb := eS_b hI (bS q) f
    have a32 : σ 32 f = s (255 + f) := X_at_cap h hf4
    have fin : ∀ t : Int32, t.toInt = eS s (bS q) f → ∃ σ', fX3_tryOneFree_c38 (fX3_tryOneFree_c6 n) (nI q) (nI i) a (nI f) t (nI f) σ = some σ' ∧ RX σ' (H, s, tx) ∧ xcand σ' (oneC s (bS q) i) ∧ fX σ σ' ∧ σ' 33 = σ 33 ∧ σ' 29 4 = σ 29 4 := fun t ht => by
      unfold fX3_tryOneFree_c38
      have f1 : fX σ (xu σ 34 f t) := (fX.refl σ).xu 34 f _ (by decide) (fun h9 => absurd h9 (by decide))
      obtain ⟨σ', g1, g2, g3, g4, g5, g6⟩ := ih (f + 1) n (xu σ 34 f t) (a - t) (by omega) (by omega) (h.scr f1) (fun k hk2 => by
        rw [xu_at]
        by_cases e : k = f
        · rw [e, upd_at]; exact ht
        · rw [upd_ne _ _ e]; exact hk k (by omega)) (by
        rw [i32_sub (by omega) (by omega), ha, ht]
        show _ = 100 - (sumI (eS s (bS q)) f + eS s (bS q) f)
        omega)
      refine ⟨σ', ?_, g2, g3, f1.trans g4, g5.trans (xu_ne _ _ _ (by decide)), g6.trans (by rw [xu_ne _ _ _ (by decide)])⟩
      rw [xs_n (by omega) (by decide), xr_n (by omega) (by decide), xu_at, upd_at, xl_t, xl_t, nI_1]
      exact g1
    rw [fX3_tryOneFree_c6_s, if_neg (show ¬ (4 : Int32) ≤ nI f from nI_ge (a := f) (b := 4) (by omega) (by decide)), X_isIn hq hf4, xc2_t, x_i10]
    by_cases c : bS q f = true
    · rw [if_pos c, xr_n (by omega) (by decide), a32]
      refine fin _ ?_
      unfold eS
      rw [if_pos ⟨hf4, c⟩]; rfl
    · rw [if_neg c]
      refine fin 0 ?_
      unfold eS
      rw [if_neg (fun h9 => c h9.2)]; rfl
theorem X_two {N : Nat} {H : List sS} {s : sS} {tx : (Nat → Int32) × Nat} (hI : Inv N s) {q i j : Nat} (hq : q < 16) (hi : i < 4) (hj : j < 4) (hij : j ≠ i) {g : Int32} (hg : g.toInt = stI s i - stI s j) {w : Int} (hw : 0 ≤ w ∧ w ≤ 200) : ∀ (d f n : Nat) (σ : xSt) (a b : Int32), f + d = 4 → d < n → RX σ (H, s, tx) → (∀ k, k < f → (σ 34 k).toInt = eS s (bS q) k * (stI s i - stI s j)) → a.toInt = 100 - sumI (eS s (bS q)) f → b.toInt = 100 * w - sumI (fun k => eS s (bS q) k * stI s k) f → ∃ σ', fX3_tryTwoFree_c29 n (nI q) (nI i) (nI j) g a b (nI f) σ = some σ' ∧ RX σ' (H, s, tx) ∧ xcand σ' (twoC s (bS q) i j w) ∧ fX σ σ' ∧ σ' 33 = σ 33 ∧ σ' 29 4 = σ 29 4 := by
  have bi := fl_b hI hi
  have bj := fl_b hI hj
  intro d
  induction d with
  | zero =>
    intro f n σ a b hf hn h hk ha hb
    obtain ⟨n, rfl⟩ : ∃ z, n = z + 1 := ⟨n - 1, by omega⟩
    obtain rfl : f = 4 := by omega
    have hs := eS_sums hI (bS q) 4 (Nat.le_refl 4)
    have a3j : σ 30 j = s (247 + j) := X_at_strength h hj
    have p1 := mulAbs (a := a.toInt) (b := stI s i) (A := 300) (B := 200) (by omega) (by omega) (by omega) (by omega)
    have p2 := mulAbs (a := a.toInt) (b := stI s j) (A := 300) (B := 200) (by omega) (by omega) (by omega) (by omega)
    have m1 : (a * s (247 + j)).toInt = a.toInt * stI s j := i32_mul (by show _ ≤ _ * stI s j; omega) (by show _ * stI s j < _; omega)
    have m2 : (a * s (247 + i)).toInt = a.toInt * stI s i := i32_mul (by show _ ≤ _ * stI s i; omega) (by show _ * stI s i < _; omega)
    have m3 : (b - a * s (247 + j)).toInt = b.toInt - a.toInt * stI s j := by rw [i32_sub (by rw [m1]; omega) (by rw [m1]; omega), m1]
    have m4 : (a * s (247 + i) - b).toInt = a.toInt * stI s i - b.toInt := by rw [i32_sub (by rw [m2]; omega) (by rw [m2]; omega), m2]
    have m5 : (100 * g).toInt = 100 * (stI s i - stI s j) := by
      rw [i32_mul (by rw [hg]; show _ ≤ (100 : Int) * _; omega) (by rw [hg]; show (100 : Int) * _ < _; omega), hg]; rfl
    have f1 : fX σ (xu σ 34 i (b - a * s (247 + j))) := (fX.refl σ).xu 34 i _ (by decide) (fun h9 => absurd h9 (by decide))
    have a3i : xu σ 34 i (b - a * s (247 + j)) 30 i = s (247 + i) := X_at_strength (h.scr f1) hi
    have f3 : fX σ (xu (xu (xu σ 34 i (b - a * s (247 + j))) 34 j (a * s (247 + i) - b)) 29 6 (100 * g)) := (f1.xu 34 j _ (by decide) (fun h9 => absurd h9 (by decide))).xu 29 6 _ (by decide) (fun h9 => absurd h9 (by decide))
    rw [fX3_tryTwoFree_c29_s, if_pos (show (4 : Int32) ≤ nI 4 by decide), xr_n (by omega) (by decide), a3j, xs_n (by omega) (by decide), xr_n (by omega) (by decide), a3i, xs_n (by omega) (by decide), xp_t]
    refine ⟨_, rfl, h.scr f3, ⟨by rw [xu_at, upd_at]; exact m5, fun f hf4 => ?_⟩, f3, by rw [xu_ne _ _ _ (by decide), xu_ne _ _ _ (by decide), xu_ne _ _ _ (by decide)], by rw [xu_at, upd_ne _ _ (by decide), xu_ne _ _ _ (by decide), xu_ne _ _ _ (by decide)]⟩
    rw [xu_ne _ _ _ (by decide), xu_at]
    show _ = if f = j then (100 - sumI (eS s (bS q)) 4) * stI s i - (100 * w - sumI (fun k => eS s (bS q) k * stI s k) 4) else if f = i then (100 * w - sumI (fun k => eS s (bS q) k * stI s k) 4) - (100 - sumI (eS s (bS q)) 4) * stI s j else eS s (bS q) f * (stI s i - stI s j)
    rw [← ha, ← hb]
    by_cases e : f = j
    · rw [if_pos e, e, upd_at]; exact m4
    · rw [if_neg e, upd_ne _ _ e, xu_at]
      by_cases e2 : f = i
      · rw [if_pos e2, e2, upd_at]; exact m3
      · rw [if_neg e2, upd_ne _ _ e2]; exact hk f hf4
  | succ d ih =>
    intro f n σ a b hf hn h hk ha hb
    obtain ⟨n, rfl⟩ : ∃ z, n = z + 1 := ⟨n - 1, by omega⟩
    have hf4 : f < 4 := by omega
    have hs := eS_sums hI (bS q) f (by omega)
    have eb := eS_b hI (bS q) f
    have bf := fl_b hI hf4
    have a32 : σ 32 f = s (255 + f) := X_at_cap h hf4
    have a30 : σ 30 f = s (247 + f) := X_at_strength h hf4
    have p1 := mulNN (a := eS s (bS q) f) (b := stI s f) (A := 100) (B := 200) (by omega) (by omega) (by omega) (by omega)
    have p2 := mulAbs (a := eS s (bS q) f) (b := stI s i - stI s j) (A := 100) (B := 200) (by omega) (by omega) (by omega) (by omega)
    have fin : ∀ t : Int32, t.toInt = eS s (bS q) f → ∃ σ', fX3_tryTwoFree_c55 (fX3_tryTwoFree_c29 n) (nI q) (nI i) (nI j) g a b (nI f) t σ = some σ' ∧ RX σ' (H, s, tx) ∧ xcand σ' (twoC s (bS q) i j w) ∧ fX σ σ' ∧ σ' 33 = σ 33 ∧ σ' 29 4 = σ 29 4 := fun t ht => by
      unfold fX3_tryTwoFree_c55
      have m1 : (t * s (247 + f)).toInt = eS s (bS q) f * stI s f := by
        rw [i32_mul (by rw [ht]; show _ ≤ _ * stI s f; omega) (by rw [ht]; show _ * stI s f < _; omega), ht]; rfl
      have m2 : (t * g).toInt = eS s (bS q) f * (stI s i - stI s j) := by
        rw [i32_mul (by rw [ht, hg]; omega) (by rw [ht, hg]; omega), ht, hg]
      have f1 : fX σ (xu σ 34 f (t * g)) := (fX.refl σ).xu 34 f _ (by decide) (fun h9 => absurd h9 (by decide))
      obtain ⟨σ', g1, g2, g3, g4, g5, g6⟩ := ih (f + 1) n (xu σ 34 f (t * g)) (a - t) (b - t * s (247 + f)) (by omega) (by omega) (h.scr f1) (fun k hk2 => by
        rw [xu_at]
        by_cases e : k = f
        · rw [e, upd_at]; exact m2
        · rw [upd_ne _ _ e]; exact hk k (by omega)) (by
        rw [i32_sub (by omega) (by omega), ha, ht]
        show _ = 100 - (sumI (eS s (bS q)) f + eS s (bS q) f)
        omega) (by
        rw [i32_sub (by rw [m1]; omega) (by rw [m1]; omega), hb, m1]
        show _ = 100 * w - (sumI (fun k => eS s (bS q) k * stI s k) f + eS s (bS q) f * stI s f)
        omega)
      refine ⟨σ', ?_, g2, g3, f1.trans g4, g5.trans (xu_ne _ _ _ (by decide)), g6.trans (by rw [xu_ne _ _ _ (by decide)])⟩
      rw [xl_t, xr_n (by omega) (by decide), a30, xl_t, xs_n (by omega) (by decide), xl_t, nI_1]
      exact g1
    rw [fX3_tryTwoFree_c29_s, if_neg (show ¬ (4 : Int32) ≤ nI f from nI_ge (a := f) (b := 4) (by omega) (by decide)), X_isIn hq hf4, xc2_t, x_i10]
    by_cases c : bS q f = true
    · rw [if_pos c, xr_n (by omega) (by decide), a32]
      refine fin _ ?_
      unfold eS
      rw [if_pos ⟨hf4, c⟩]; rfl
    · rw [if_neg c]
      refine fin 0 ?_
      unfold eS
      rw [if_neg (fun h9 => c h9.2)]; rfl
/-! the loops over the corners -/
def PJ (s : sS) (lo hi : Int) (q i j : Nat) (c : Cd) : Prop := bS q j = false ∧ stI s j < stI s i ∧ (c = twoC s (bS q) i j lo ∨ c = twoC s (bS q) i j hi)
def PI (s : sS) (lo hi : Int) (q i : Nat) (c : Cd) : Prop := bS q i = false ∧ (c = oneC s (bS q) i ∨ ∃ j, j < 4 ∧ PJ s lo hi q i j c)
def PQ (s : sS) (lo hi : Int) (q : Nat) (c : Cd) : Prop := ∃ i, i < 4 ∧ PI s lo hi q i c
theorem X_twoTry {N : Nat} {σ : xSt} {H : List sS} {s : sS} {tx : (Nat → Int32) × Nat} (h : RX σ (H, s, tx)) (hI : Inv N s) {q i j : Nat} (hq : q < 16) (hi : i < 4) (hj : j < 4) (hSi : bS q i = false) (hSj : bS q j = false) (hl : stI s j < stI s i) {p0 p1 pw : Int32} (h0 : bt p0 0 200) (h1 : bt p1 0 200) (hw : bt pw 0 200) {T : Cd → Prop} (hB : XB s p0.toInt p1.toInt σ T) : ∃ σ1, fX3_tryTwoFree (nI q) (nI i) (nI j) pw σ = some σ1 ∧ ∃ σ', fX3_keepIfBetter p0 p1 σ1 = some σ' ∧ RX σ' (H, s, tx) ∧ XB s p0.toInt p1.toInt σ' (fun x => T x ∨ x = twoC s (bS q) i j pw.toInt) ∧ fX σ σ' := by
  have bi := fl_b hI hi
  have bj := fl_b hI hj
  unfold bt at hw
  have a3i : σ 30 i = s (247 + i) := X_at_strength h hi
  have a3j : σ 30 j = s (247 + j) := X_at_strength h hj
  have hij : j ≠ i := fun e => by rw [e] at hl; exact absurd hl (Int.lt_irrefl _)
  have hg : (s (247 + i) - s (247 + j)).toInt = stI s i - stI s j := i32_sub (by show _ ≤ stI s i - stI s j; omega) (by show stI s i - stI s j < _; omega)
  have m : (100 * pw).toInt = 100 * pw.toInt := by
    rw [i32_mul (by show _ ≤ (100 : Int) * _; omega) (by show (100 : Int) * _ < _; omega)]; rfl
  obtain ⟨σ1, g1, g2, g3, g4, g5, g6⟩ := X_two (tx := tx) (H := H) hI hq hi hj hij hg (w := pw.toInt) hw 4 0 xFU σ 100 (100 * pw) rfl (by decide) h (fun k hk => absurd hk (Nat.not_lt_zero k)) (by show (100 : Int) = 100 - 0; omega) (by rw [m]; show _ = _ - (0 : Int); omega)
  obtain ⟨σ2, k1, k2, k3, k4⟩ := X_keepBetter g2 hI (twoC_cb hI hi hj hSi hSj hl hw.1 hw.2) g3 h0 h1 (hB.frame g5 g6)
  refine ⟨σ1, ?_, σ2, k1, k2, k3, g4.trans k4⟩
  unfold fX3_tryTwoFree
  rw [xr_n (by omega) (by decide), a3i, xr_n (by omega) (by decide), a3j, xl_t, xl_t]
  exact g1
theorem X_pairs {N : Nat} {H : List sS} {s : sS} {tx : (Nat → Int32) × Nat} (hI : Inv N s) {q i : Nat} (hq : q < 16) (hi : i < 4) (hSi : bS q i = false) {p0 p1 : Int32} (h0 : bt p0 0 200) (h1 : bt p1 0 200) : ∀ (d j n : Nat) (σ : xSt) (T : Cd → Prop), j + d = 4 → d < n → RX σ (H, s, tx) → XB s p0.toInt p1.toInt σ T → ∃ σ', fX3_tryPairs_c3 n (nI q) (nI i) p0 p1 (nI j) σ = some σ' ∧ RX σ' (H, s, tx) ∧ XB s p0.toInt p1.toInt σ' (fun c => T c ∨ ∃ j', j ≤ j' ∧ j' < 4 ∧ PJ s p0.toInt p1.toInt q i j' c) ∧ fX σ σ' := by
  intro d
  induction d with
  | zero =>
    intro j n σ T hj hn h hB
    obtain ⟨n, rfl⟩ : ∃ z, n = z + 1 := ⟨n - 1, by omega⟩
    obtain rfl : j = 4 := by omega
    rw [fX3_tryPairs_c3_s, if_pos (show (4 : Int32) ≤ nI 4 by decide)]
    refine ⟨σ, rfl, h, hB.iff (fun c => ⟨Or.inl, fun h9 => ?_⟩), fX.refl σ⟩
    rcases h9 with h9 | ⟨j', g1, g2, -⟩
    · exact h9
    · omega
  | succ d ih =>
    intro j n σ T hj hn h hB
    obtain ⟨n, rfl⟩ : ∃ z, n = z + 1 := ⟨n - 1, by omega⟩
    have hj4 : j < 4 := by omega
    have a3i : σ 30 i = s (247 + i) := X_at_strength h hi
    have a3j : σ 30 j = s (247 + j) := X_at_strength h hj4
    have skip : (∀ c, ¬ PJ s p0.toInt p1.toInt q i j c) → ∃ σ', fX3_tryPairs_c3 n (nI q) (nI i) p0 p1 (nI (j + 1)) σ = some σ' ∧ RX σ' (H, s, tx) ∧ XB s p0.toInt p1.toInt σ' (fun c => T c ∨ ∃ j', j ≤ j' ∧ j' < 4 ∧ PJ s p0.toInt p1.toInt q i j' c) ∧ fX σ σ' := fun hno => by
      obtain ⟨σ', e1, e2, e3, e4⟩ := ih (j + 1) n σ T (by omega) (by omega) h hB
      refine ⟨σ', e1, e2, e3.iff (fun c => ⟨fun h9 => ?_, fun h9 => ?_⟩), e4⟩
      · rcases h9 with h9 | ⟨j', g1, g2, g3⟩
        · exact Or.inl h9
        · exact Or.inr ⟨j', by omega, g2, g3⟩
      · rcases h9 with h9 | ⟨j', g1, g2, g3⟩
        · exact Or.inl h9
        · by_cases e : j' = j
          · rw [e] at g3; exact absurd g3 (hno c)
          · exact Or.inr ⟨j', by omega, g2, g3⟩
    rw [fX3_tryPairs_c3_s, if_neg (show ¬ (4 : Int32) ≤ nI j from nI_ge (a := j) (b := 4) (by omega) (by decide)), X_isIn hq hj4, xc2_t, x_i10]
    by_cases c : bS q j = true
    · rw [if_pos c, xl_t, nI_1]
      exact skip (fun _ h9 => by rw [h9.1] at c; exact absurd c (by decide))
    · have c' : bS q j = false := by
        cases hb : bS q j with
        | true => exact absurd hb c
        | false => rfl
      rw [if_neg c, xr_n (by omega) (by decide), a3i, xr_n (by omega) (by decide), a3j]
      by_cases l : stI s j < stI s i
      · rw [if_neg (show ¬ s (247 + i) ≤ s (247 + j) from fun h9 => by rw [fa_le] at h9; have h9 : stI s i ≤ stI s j := h9; omega)]
        obtain ⟨σ1, a1, σ2, a2, a3, a4, a5⟩ := X_twoTry h hI hq hi hj4 hSi c' l h0 h1 h0 hB
        obtain ⟨σ3, b1, σ4, b2, b3, b4, b5⟩ := X_twoTry a3 hI hq hi hj4 hSi c' l h0 h1 h1 a4
        obtain ⟨σ5, d1, d2, d3, d4⟩ := ih (j + 1) n σ4 _ (by omega) (by omega) b3 b4
        refine ⟨σ5, ?_, d2, d3.iff (fun x => ⟨fun h9 => ?_, fun h9 => ?_⟩), (a5.trans b5).trans d4⟩
        · rw [a1, xc_t, a2, xc_t, b1, xc_t, b2, xc_t, xl_t, nI_1]
          exact d1
        · rcases h9 with ((h9 | h9) | h9) | ⟨j', g1, g2, g3⟩
          · exact Or.inl h9
          · exact Or.inr ⟨j, Nat.le_refl _, hj4, c', l, Or.inl h9⟩
          · exact Or.inr ⟨j, Nat.le_refl _, hj4, c', l, Or.inr h9⟩
          · exact Or.inr ⟨j', by omega, g2, g3⟩
        · rcases h9 with h9 | ⟨j', g1, g2, g3⟩
          · exact Or.inl (Or.inl (Or.inl h9))
          · by_cases e : j' = j
            · rw [e] at g3
              rcases g3.2.2 with g4 | g4
              · exact Or.inl (Or.inl (Or.inr g4))
              · exact Or.inl (Or.inr g4)
            · exact Or.inr ⟨j', by omega, g2, g3⟩
      · rw [if_pos (show s (247 + i) ≤ s (247 + j) from (fa_le _ _).mpr (by show stI s i ≤ stI s j; omega)), xl_t, nI_1]
        exact skip (fun _ h9 => l h9.2.1)
theorem X_ones {N : Nat} {H : List sS} {s : sS} {tx : (Nat → Int32) × Nat} (hI : Inv N s) {q : Nat} (hq : q < 16) {p0 p1 : Int32} (h0 : bt p0 0 200) (h1 : bt p1 0 200) (k7 : Int32 → Int32 → Int32 → xSt → Option (Int32 × xSt)) : ∀ (d i n : Nat) (σ : xSt) (T : Cd → Prop), i + d = 4 → d < n → RX σ (H, s, tx) → XB s p0.toInt p1.toInt σ T → ∃ σ', fX3_findMix_c16 k7 n p0 p1 (nI q) (nI i) σ = k7 p0 p1 (nI (q + 1)) σ' ∧ RX σ' (H, s, tx) ∧ XB s p0.toInt p1.toInt σ' (fun c => T c ∨ ∃ i', i ≤ i' ∧ i' < 4 ∧ PI s p0.toInt p1.toInt q i' c) ∧ fX σ σ' := by
  intro d
  induction d with
  | zero =>
    intro i n σ T hi hn h hB
    obtain ⟨n, rfl⟩ : ∃ z, n = z + 1 := ⟨n - 1, by omega⟩
    obtain rfl : i = 4 := by omega
    rw [fX3_findMix_c16_s, if_pos (show (4 : Int32) ≤ nI 4 by decide), xl_t, nI_1]
    refine ⟨σ, rfl, h, hB.iff (fun c => ⟨Or.inl, fun h9 => ?_⟩), fX.refl σ⟩
    rcases h9 with h9 | ⟨j', g1, g2, -⟩
    · exact h9
    · omega
  | succ d ih =>
    intro i n σ T hi hn h hB
    obtain ⟨n, rfl⟩ : ∃ z, n = z + 1 := ⟨n - 1, by omega⟩
    have hi4 : i < 4 := by omega
    rw [fX3_findMix_c16_s, if_neg (show ¬ (4 : Int32) ≤ nI i from nI_ge (a := i) (b := 4) (by omega) (by decide)), X_isIn hq hi4, xc2_t, x_i10]
    by_cases c : bS q i = true
    · rw [if_pos c, xl_t, nI_1]
      obtain ⟨σ', e1, e2, e3, e4⟩ := ih (i + 1) n σ T (by omega) (by omega) h hB
      refine ⟨σ', e1, e2, e3.iff (fun x => ⟨fun h9 => ?_, fun h9 => ?_⟩), e4⟩
      · rcases h9 with h9 | ⟨j', g1, g2, g3⟩
        · exact Or.inl h9
        · exact Or.inr ⟨j', by omega, g2, g3⟩
      · rcases h9 with h9 | ⟨j', g1, g2, g3⟩
        · exact Or.inl h9
        · by_cases e : j' = i
          · rw [e, PI, c] at g3; exact absurd g3.1 (by decide)
          · exact Or.inr ⟨j', by omega, g2, g3⟩
    · have c' : bS q i = false := by
        cases hb : bS q i with
        | true => exact absurd hb c
        | false => rfl
      rw [if_neg c]
      obtain ⟨σ1, a1, a2, a3, a4, a5, a6⟩ := X_one (tx := tx) (H := H) hI hq hi4 4 0 xFU σ 100 rfl (by decide) h (fun k hk => absurd hk (Nat.not_lt_zero k)) (by show (100 : Int) = 100 - 0; omega)
      obtain ⟨σ2, b1, b2, b3, b4⟩ := X_keepBetter a2 hI (oneC_cb hI hi4 c') a3 h0 h1 (hB.frame a5 a6)
      obtain ⟨σ3, d1, d2, d3, d4⟩ := X_pairs (tx := tx) (H := H) hI hq hi4 c' h0 h1 4 0 xFU σ2 _ rfl (by decide) b2 b3
      obtain ⟨σ4, e1, e2, e3, e4⟩ := ih (i + 1) n σ3 _ (by omega) (by omega) d2 d3
      refine ⟨σ4, ?_, e2, e3.iff (fun x => ⟨fun h9 => ?_, fun h9 => ?_⟩), ((a4.trans b4).trans d4).trans e4⟩
      · unfold fX3_tryOneFree fX3_tryPairs
        rw [show fX3_tryOneFree_c6 xFU (nI q) (nI i) 100 0 σ = some σ1 from a1, xc_t, b1, xc_t, show fX3_tryPairs_c3 xFU (nI q) (nI i) p0 p1 0 σ2 = some σ3 from d1, xc_t, xl_t, nI_1]
        exact e1
      · rcases h9 with ((h9 | h9) | ⟨j', g1, g2, g3⟩) | ⟨j', g1, g2, g3⟩
        · exact Or.inl h9
        · exact Or.inr ⟨i, Nat.le_refl _, hi4, c', Or.inl h9⟩
        · exact Or.inr ⟨i, Nat.le_refl _, hi4, c', Or.inr ⟨j', g2, g3⟩⟩
        · exact Or.inr ⟨j', by omega, g2, g3⟩
      · rcases h9 with h9 | ⟨j', g1, g2, g3⟩
        · exact Or.inl (Or.inl (Or.inl h9))
        · by_cases e : j' = i
          · rw [e] at g3
            rcases g3.2 with g4 | ⟨k, g5, g6⟩
            · exact Or.inl (Or.inl (Or.inr g4))
            · exact Or.inl (Or.inr ⟨k, Nat.zero_le _, g5, g6⟩)
          · exact Or.inr ⟨j', by omega, g2, g3⟩
theorem X_corners {N : Nat} {H : List sS} {s : sS} {tx : (Nat → Int32) × Nat} (hI : Inv N s) {p0 p1 : Int32} (h0 : bt p0 0 200) (h1 : bt p1 0 200) : ∀ (d q n : Nat) (σ : xSt) (T : Cd → Prop), q + d = 16 → d < n → RX σ (H, s, tx) → XB s p0.toInt p1.toInt σ T → ∃ σ' b, fX3_findMix_c7 n p0 p1 (nI q) σ = some (match b with | none => 0 | some _ => 1, σ') ∧ RX σ' (H, s, tx) ∧ xBst σ' b ∧ Mn s p0.toInt p1.toInt (fun c => T c ∨ ∃ q', q ≤ q' ∧ q' < 16 ∧ PQ s p0.toInt p1.toInt q' c) b ∧ fX σ σ' := by
  intro d
  induction d with
  | zero =>
    intro q n σ T hq hn h hB
    obtain ⟨n, rfl⟩ : ∃ z, n = z + 1 := ⟨n - 1, by omega⟩
    obtain rfl : q = 16 := by omega
    obtain ⟨b, g1, g2⟩ := hB
    rw [fX3_findMix_c7_s, if_pos (show (16 : Int32) ≤ nI 16 by decide)]
    refine ⟨σ, b, ?_, h, g1, Mn_iff (fun c => ⟨Or.inl, fun h9 => ?_⟩) b g2, fX.refl σ⟩
    · cases b with
      | none =>
        have g1 : σ 29 4 = 0 := g1
        rw [if_pos (by rw [g1]; decide)]
      | some b =>
        obtain ⟨k1, k2, k3⟩ := g1
        have := k1.1
        rw [if_neg (show ¬ σ 29 4 ≤ 0 from fun h9 => by rw [fa_le, k2] at h9; have h9 : 100 * b.2 ≤ (0 : Int) := h9; omega)]
    · rcases h9 with h9 | ⟨j', g1, g2, -⟩
      · exact h9
      · omega
  | succ d ih =>
    intro q n σ T hq hn h hB
    obtain ⟨n, rfl⟩ : ∃ z, n = z + 1 := ⟨n - 1, by omega⟩
    obtain ⟨σ1, a1, a2, a3, a4⟩ := X_ones (tx := tx) (H := H) hI (q := q) (by omega) h0 h1 (fX3_findMix_c7 n) 4 0 xFU σ T rfl (by decide) h hB
    obtain ⟨σ2, b, b1, b2, b3, b4, b5⟩ := ih (q + 1) n σ1 _ (by omega) (by omega) a2 a3
    rw [fX3_findMix_c7_s, if_neg (show ¬ (16 : Int32) ≤ nI q from nI_ge (a := q) (b := 16) (by omega) (by decide)), show fX3_findMix_c16 (fX3_findMix_c7 n) xFU p0 p1 (nI q) 0 σ = _ from a1]
    refine ⟨σ2, b, b1, b2, b3, Mn_iff (fun x => ⟨fun h9 => ?_, fun h9 => ?_⟩) b b4, a4.trans b5⟩
    · rcases h9 with (h9 | ⟨j', g1, g2, g3⟩) | ⟨j', g1, g2, g3⟩
      · exact Or.inl h9
      · exact Or.inr ⟨q, Nat.le_refl _, by omega, j', g2, g3⟩
      · exact Or.inr ⟨j', by omega, g2, g3⟩
    · rcases h9 with h9 | ⟨j', g1, g2, g3⟩
      · exact Or.inl (Or.inl h9)
      · by_cases e : j' = q
        · rw [e] at g3
          obtain ⟨i, g4, g5⟩ := g3
          exact Or.inl (Or.inr ⟨i, Nat.zero_le _, g4, g5⟩)
        · exact Or.inr ⟨j', by omega, g2, g3⟩
/-- the class's mask of a set -/
def qS (S : Nat → Bool) : Nat := (if S 0 then 1 else 0) + (if S 1 then 2 else 0) + (if S 2 then 4 else 0) + (if S 3 then 8 else 0)
theorem qS_bits (S : Nat → Bool) : qS S < 16 ∧ ∀ f, f < 4 → bS (qS S) f = S f := by
  unfold qS bS
  refine ⟨by split <;> split <;> split <;> split <;> omega, fun f hf => ?_⟩
  have hf : f = 0 ∨ f = 1 ∨ f = 2 ∨ f = 3 := by omega
  cases e0 : S 0 <;> cases e1 : S 1 <;> cases e2 : S 2 <;> cases e3 : S 3 <;> rcases hf with rfl | rfl | rfl | rfl <;> simp [e0, e1, e2, e3]
theorem PQ_TC {s : sS} {lo hh : Int} (c : Cd) : (False ∨ ∃ q', 0 ≤ q' ∧ q' < 16 ∧ PQ s lo hh q' c) ↔ TC s lo hh c := by
  constructor
  · intro h
    rcases h with h | ⟨q, -, hq, i, hi, hS, h⟩
    · exact absurd h id
    · rcases h with h | ⟨j, hj, hSj, hl, h⟩
      · exact Or.inl ⟨bS q, i, hi, hS, h⟩
      · rcases h with h | h
        · exact Or.inr ⟨bS q, i, j, lo, hi, hj, hS, hSj, hl, Or.inl rfl, h⟩
        · exact Or.inr ⟨bS q, i, j, _, hi, hj, hS, hSj, hl, Or.inr rfl, h⟩
  · intro h
    rcases h with ⟨S, i, hi, hS, h⟩ | ⟨S, i, j, w, hi, hj, hS, hSj, hl, hw, h⟩
    · obtain ⟨q1, q2⟩ := qS_bits S
      exact Or.inr ⟨qS S, Nat.zero_le _, q1, i, hi, by rw [q2 i hi]; exact hS, Or.inl (by rw [h]; exact oneC_congr (fun f hf => (q2 f hf).symm) i)⟩
    · obtain ⟨q1, q2⟩ := qS_bits S
      refine Or.inr ⟨qS S, Nat.zero_le _, q1, i, hi, by rw [q2 i hi]; exact hS, Or.inr ⟨j, hj, by rw [q2 j hj]; exact hSj, hl, ?_⟩⟩
      have e : c = twoC s (bS (qS S)) i j w := by rw [h]; exact twoC_congr (fun f hf => (q2 f hf).symm) i j w
      rcases hw with hw | hw
      · rw [hw] at e; exact Or.inl e
      · rw [hw] at e; exact Or.inr e
theorem X_findMix {N : Nat} {σ : xSt} {H : List sS} {s : sS} {tx : (Nat → Int32) × Nat} (h : RX σ (H, s, tx)) (hI : Inv N s) {p0 p1 : Int32} (h0 : bt p0 0 200) (h1 : bt p1 0 200) : ∃ σ' b, fX3_findMix p0 p1 σ = some (match b with | none => 0 | some _ => 1, σ') ∧ RX σ' (H, s, tx) ∧ xBst σ' b ∧ Mn s p0.toInt p1.toInt (TC s p0.toInt p1.toInt) b := by
  have f1 : fX σ (xu σ 29 4 0) := (fX.refl σ).xu 29 4 _ (by decide) (fun h9 => absurd h9 (by decide))
  obtain ⟨σ', b, b1, b2, b3, b4, b5⟩ := X_corners (tx := tx) (H := H) hI h0 h1 16 0 xFU (xu σ 29 4 0) (fun _ => False) rfl (by decide) (h.scr f1) ⟨none, by show xu σ 29 4 0 29 4 = 0; rw [xu_at, upd_at], fun c hc => absurd hc id⟩
  refine ⟨σ', b, ?_, b2, b3, Mn_iff PQ_TC b b4⟩
  unfold fX3_findMix
  rw [xp_t]
  exact b1
theorem X_gcdLoop (A B C : Int32) (σ : xSt) : ∀ (k x y t n : Nat), y < 2 ^ k → t + 2 * k ≤ 64 → 64 < n + t → x < 2147483648 → y < 2147483648 → fX11_lowestTerm_c8 n A B C (nI x) (nI y) (nI t) σ = fX11_lowestTerm_c39 A B C (nI (Nat.gcd x y)) σ := by
  have done : ∀ x t n : Nat, t ≤ 64 → 64 < n + t → fX11_lowestTerm_c8 n A B C (nI x) (nI 0) (nI t) σ = fX11_lowestTerm_c39 A B C (nI (Nat.gcd x 0)) σ := fun x t n ht hn => by
    obtain ⟨n, rfl⟩ : ∃ z, n = z + 1 := ⟨n - 1, by omega⟩
    rw [fX11_lowestTerm_c8_s, Nat.gcd_zero_right, if_pos (show nI 0 = 0 from rfl), ite_self]
  have step : ∀ x y t n : Nat, ¬ y = 0 → t < 64 → x < 2147483648 → y < 2147483648 → fX11_lowestTerm_c8 (n + 1) A B C (nI x) (nI y) (nI t) σ = fX11_lowestTerm_c8 n A B C (nI y) (nI (x % y)) (nI (t + 1)) σ := fun x y t n hy ht hx hy2 => by
    have ny : ¬ nI y = 0 := fun h9 => hy ((nI_eq (by omega) (by decide)).mp (h9.trans (show (0 : Int32) = nI 0 from rfl)))
    rw [fX11_lowestTerm_c8_s, if_neg (show ¬ (64 : Int32) ≤ nI t from nI_ge (a := t) (b := 64) (by omega) (by decide)), if_neg ny, xnz_t ny, xl_t, xl_t, nI_1, nI_rem (by omega) (by omega) (by omega)]
  intro k
  induction k with
  | zero =>
    intro x y t n hy ht hn hx hy2
    obtain rfl : y = 0 := by rw [Nat.pow_zero] at hy; omega
    exact done x t n (by omega) hn
  | succ k ih =>
    intro x y t n hy ht hn hx hy2
    by_cases c : y = 0
    · subst c
      exact done x t n (by omega) hn
    · obtain ⟨n, rfl⟩ : ∃ z, n = z + 1 := ⟨n - 1, by omega⟩
      have l1 : x % y < y := Nat.mod_lt x (by omega)
      rw [step x y t n c (by omega) hx hy2, gcd_step x y]
      by_cases c2 : x % y = 0
      · rw [c2]
        exact done y (t + 1) n (by omega) (by omega)
      · obtain ⟨n, rfl⟩ : ∃ z, n = z + 1 := ⟨n - 1, by omega⟩
        have l2 : y % (x % y) < x % y := Nat.mod_lt y (by omega)
        rw [step y (x % y) (t + 1) n c2 (by omega) (by omega) (by omega), gcd_step y (x % y)]
        exact ih (x % y) (y % (x % y)) (t + 1 + 1) n (mod_half c2 hy (by omega)) (by omega) (by omega) (by omega) (by omega)
theorem nI_divN {a b : Nat} (ha : a < 2147483648) (hb : 0 < b) (hb2 : b < 2147483648) : nI a / nI b = nI (a / b) := by
  have hd : a / b ≤ a := Nat.div_le_self a b
  rw [fa_eq, i32_div (by rw [nI_toInt (by omega)]; omega) (by rw [nI_toInt (by omega)]; omega), nI_toInt (by omega), nI_toInt (by omega), nI_toInt (by omega)]
  exact (Int.natCast_ediv a b).symm
def lowT (t b : Nat) (p2 : Int32) : Int32 := if p2 = 0 then nI (t / Nat.gcd b t) else nI (b / Nat.gcd b t)
theorem X_lowestTerm {t b : Nat} (ht : t < 2147483648) (hb : 0 < b) (hb2 : b < 2147483648) (p2 : Int32) (σ : xSt) : fX11_lowestTerm (nI t) (nI b) p2 σ = some (lowT t b p2, σ) := by
  have hg : 0 < Nat.gcd b t := Nat.gcd_pos_of_pos_left t hb
  have hg2 : Nat.gcd b t ≤ b := Nat.gcd_le_left t hb
  have ng : ¬ nI (Nat.gcd b t) = 0 := fun h9 => by
    have := (nI_eq (a := Nat.gcd b t) (b := 0) (by omega) (by decide)).mp (h9.trans (show (0 : Int32) = nI 0 from rfl))
    omega
  unfold fX11_lowestTerm lowT
  rw [show fX11_lowestTerm_c8 xFU (nI t) (nI b) p2 (nI b) (nI t) 0 σ = _ from X_gcdLoop (nI t) (nI b) p2 σ 31 b t 0 xFU (by omega) (by decide) (by decide) (by omega) (by omega)]
  unfold fX11_lowestTerm_c39
  rw [if_neg ng, xnz_t ng, xnz_t ng, nI_divN (by omega) (by omega) (by omega), nI_divN (by omega) (by omega) (by omega)]
  split <;> rfl
