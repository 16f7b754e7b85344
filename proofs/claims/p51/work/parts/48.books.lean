/-! ===== NOTES, BOOKS, THE CHECKSUM ===== -/
theorem nI_leF {a b : Nat} (h : a < b) (hb : b < 2147483648) : (nI b ≤ nI a) = False := eq_false (nI_ge h (by omega))
theorem nI_leT {a b : Nat} (h : b ≤ a) (ha : a < 2147483648) : (nI b ≤ nI a) = True := eq_true (nI_le h (by omega))
theorem nI_ltF {a b : Nat} (h : b ≤ a) (ha : a < 2147483648) : (nI a < nI b) = False := eq_false (nI_nlt h (by omega))
theorem nI_ltT {a b : Nat} (h : a < b) (hb : b < 2147483648) : (nI a < nI b) = True := eq_true (nI_lt h (by omega))
theorem nI_eqF {a b : Nat} (h : a ≠ b) (ha : a < 2147483648) (hb : b < 2147483648) : (nI a = nI b) = False := eq_false (fun h9 => h ((nI_eq (by omega) (by omega)).mp h9))
theorem nI_addneg {a b : Nat} (h : b ≤ a) : nI a + -nI b = nI (a - b) := by
  have e : nI a = nI (a - b) + nI b := by rw [nI_add, Nat.sub_add_cancel h]
  rw [e, Int32.add_neg_eq_sub, Int32.add_sub_cancel]
/-- sums -/
def s32 (f : Nat → Int32) : Nat → Int32
  | 0 => 0
  | n + 1 => s32 f n + f n
theorem s32_congr {f g : Nat → Int32} : ∀ {n : Nat}, (∀ k, k < n → f k = g k) → s32 f n = s32 g n
  | 0, _ => rfl
  | n + 1, h => by
    show s32 f n + f n = s32 g n + g n
    rw [s32_congr (fun k hk => h k (by omega)), h n (by omega)]
theorem s32_add (f g : Nat → Int32) : ∀ n, s32 f n + s32 g n = s32 (fun k => f k + g k) n
  | 0 => by show (0 : Int32) + 0 = 0; rfl
  | n + 1 => by
    show s32 f n + f n + (s32 g n + g n) = s32 (fun k => f k + g k) n + (f n + g n)
    rw [← s32_add f g n]
    ac_rfl
/-! notes -/
def lsf (s : sS) (r : Nat) (num over under : Int32) : Nat → Int32
  | 0 => 0
  | k + 1 => lsf s r num over under k + (if num - s (265 + (60 * r + k)) ≤ 0 then under * (-(num - s (265 + (60 * r + k)))) else over * (num - s (265 + (60 * r + k))))
def lsv (s : sS) (r : Nat) (num over under : Int32) : Int32 := lsf s r num over under (cN s r)
theorem X_loss_loop {σ : xSt} {H : List sS} {s : sS} {tx : (Nat → Int32) × Nat} (h : RX σ (H, s, tx)) (hc : caps s) {r : Nat} (hr : r < 6) (num over under : Int32) : ∀ (d i n : Nat), i + d = cN s r → d < n → fX4_lossOf_c6 n (nI r) num over under (lsf s r num over under i) (nI i) σ = some (lsv s r num over under, σ) := by
  have hb := hc.2.2.2.1 r hr
  have a1 : σ 37 r = nI (cN s r) := (X_at_ncount h hr).trans (hc.2.2.2.2.2.2.2.2 r hr)
  intro d
  induction d with
  | zero =>
    intro i n hi hn
    obtain ⟨n, rfl⟩ : ∃ z, n = z + 1 := ⟨n - 1, by omega⟩
    obtain rfl : i = cN s r := by omega
    rw [fX4_lossOf_c6_s, xr_n (by omega) (by decide), a1, if_pos (nI_le (Nat.le_refl _) (by omega))]
    rfl
  | succ d ih =>
    intro i n hi hn
    obtain ⟨n, rfl⟩ : ∃ z, n = z + 1 := ⟨n - 1, by omega⟩
    have a2 : σ 36 (60 * r + i) = s (265 + (60 * r + i)) := X_at_wanted h hr (by show i < cN s r; omega)
    have e := ih (i + 1) n (by omega) (by omega)
    rw [fX4_lossOf_c6_s, xr_n (by omega) (by decide), a1, if_neg (nI_ge (by omega) (by omega)), show (60 : Int32) = nI 60 from rfl, nI_mul, nI_add, Nat.mul_comm r 60, xr_n (by omega) (by decide), a2, xl_t]
    have e2 : lsf s r num over under (i + 1) = lsf s r num over under i + (if num - s (265 + (60 * r + i)) ≤ 0 then under * (-(num - s (265 + (60 * r + i)))) else over * (num - s (265 + (60 * r + i)))) := rfl
    by_cases g : num - s (265 + (60 * r + i)) ≤ 0
    · rw [if_pos g] at e2 ⊢
      rw [xl_t, xl_t, nI_1, ← e2]
      exact e
    · rw [if_neg g] at e2 ⊢
      rw [xl_t, xl_t, nI_1, ← e2]
      exact e
theorem X_lossOf {σ : xSt} {H : List sS} {s : sS} {tx : (Nat → Int32) × Nat} (h : RX σ (H, s, tx)) (hc : caps s) {r : Nat} (hr : r < 6) (num over under : Int32) : fX4_lossOf (nI r) num over under σ = some (lsv s r num over under, σ) :=
  X_loss_loop h hc hr num over under (cN s r) 0 xFU (by omega) (by have := hc.2.2.2.1 r hr; show cN s r < 8192; omega)
def bst (s : sS) (r : Nat) (over under : Int32) : Nat → Int32
  | 0 => 0
  | k + 1 => if lsv s r (bst s r over under k) over under ≤ lsv s r (nI (k + 1)) over under then bst s r over under k else nI (k + 1)
theorem X_bestFor {σ : xSt} {H : List sS} {s : sS} {tx : (Nat → Int32) × Nat} (h : RX σ (H, s, tx)) (hc : caps s) {r : Nat} (hr : r < 6) (over under : Int32) : fX4_bestFor (nI r) over under σ = some (bst s r over under 99, σ) := by
  have loop : ∀ (d i n : Nat), i + d = 99 → d < n → fX4_bestFor_c16 n (nI r) over under (bst s r over under i) (lsv s r (bst s r over under i) over under) (nI (i + 1)) σ = some (bst s r over under 99, σ) := by
    intro d
    induction d with
    | zero =>
      intro i n hi hn
      obtain ⟨n, rfl⟩ : ∃ z, n = z + 1 := ⟨n - 1, by omega⟩
      obtain rfl : i = 99 := by omega
      rw [fX4_bestFor_c16_s, if_pos (by decide)]
    | succ d ih =>
      intro i n hi hn
      obtain ⟨n, rfl⟩ : ∃ z, n = z + 1 := ⟨n - 1, by omega⟩
      have e := ih (i + 1) n (by omega) (by omega)
      rw [fX4_bestFor_c16_s, if_neg (show ¬ (100 : Int32) ≤ nI (i + 1) from nI_ge (a := i + 1) (b := 100) (by omega) (by decide)), X_lossOf h hc hr, xc2_t]
      have e2 : bst s r over under (i + 1) = if lsv s r (bst s r over under i) over under ≤ lsv s r (nI (i + 1)) over under then bst s r over under i else nI (i + 1) := rfl
      by_cases g : lsv s r (bst s r over under i) over under ≤ lsv s r (nI (i + 1)) over under
      · rw [if_pos g] at e2 ⊢
        rw [xl_t, nI_1]
        rw [e2] at e
        exact e
      · rw [if_neg g] at e2 ⊢
        rw [xl_t, nI_1]
        rw [e2] at e
        exact e
  unfold fX4_bestFor
  rw [X_lossOf h hc hr, xc2_t]
  exact loop 99 0 xFU rfl (by decide)
def sp_loss (p0 : Int32) (p1 : Int32) (p2 : Int32) (p3 : Int32) (a : xA) : xO × xA := if 0 ≤ p0 ∧ p0 ≤ a.2.1 5 - 1 then (if 0 ≤ p1 ∧ p1 ≤ 99 then (if 0 ≤ p2 ∧ p2 ≤ 99 then (if 0 ≤ p3 ∧ p3 ≤ 99 then ((.inl (lsv a.2.1 p0.toNatClampNeg p1 p2 p3), a)) else (.inr 1, a)) else (.inr 1, a)) else (.inr 1, a)) else (.inr 0, a)
theorem X_loss {N : Nat} {σ : xSt} {H : List sS} {s : sS} {tx : (Nat → Int32) × Nat} (h : RX σ (H, s, tx)) (hI : Inv N s) (p0 : Int32) (p1 : Int32) (p2 : Int32) (p3 : Int32) : XR (fX11_loss p0 p1 p2 p3 σ) (sp_loss p0 p1 p2 p3 (H, s, tx)) := by
  have hc := hI.caps
  obtain ⟨hcR, hcD, hcS, hcN, hrec, hE5, hE6, hE7, hE9⟩ := id hc
  unfold fX11_loss sp_loss
  rw [X_needRecipe h]
  show XR (xct (if 0 ≤ p0 ∧ p0 ≤ s 5 - 1 then _ else _) _) (if 0 ≤ p0 ∧ p0 ≤ s 5 - 1 then _ else _)
  by_cases g1 : 0 ≤ p0 ∧ p0 ≤ s 5 - 1
  · rw [if_pos g1, if_pos g1, xct_l]
    obtain ⟨r, hr, rfl⟩ := x_cnt hE5 (by omega) g1
    have hr : r < cR s := hr
    rw [nI_clamp (show r < 2 ^ 31 by omega)]
    rw [X_isWithin, xc2_t]
    by_cases k0 : 0 ≤ p1 ∧ p1 ≤ 99
    · rw [if_pos k0, if_pos k0, if_neg (by decide)]
      rw [X_isWithin, xc2_t]
      by_cases k1 : 0 ≤ p2 ∧ p2 ≤ 99
      · rw [if_pos k1, if_pos k1, if_neg (by decide)]
        rw [X_isWithin, xc2_t]
        by_cases k2 : 0 ≤ p3 ∧ p3 ≤ 99
        · rw [if_pos k2, if_pos k2, if_neg (by decide)]
          unfold fX11_loss_c41
          rw [X_needArgument1, xct_l, X_lossOf h hc (by omega), xc2_t]
          exact ⟨σ, rfl, h⟩
        · rw [if_neg k2, if_neg k2, if_pos rfl]
          exact ⟨σ, rfl, h⟩
      · rw [if_neg k1, if_neg k1, if_pos rfl]
        exact ⟨σ, rfl, h⟩
    · rw [if_neg k0, if_neg k0, if_pos rfl]
      exact ⟨σ, rfl, h⟩
  · rw [if_neg g1, if_neg g1, xct_r]
    exact ⟨σ, rfl, h⟩
def sp_bestNumber (p0 : Int32) (p1 : Int32) (p2 : Int32) (a : xA) : xO × xA := if 0 ≤ p0 ∧ p0 ≤ a.2.1 5 - 1 then (if 0 ≤ p1 ∧ p1 ≤ 99 then (if 0 ≤ p2 ∧ p2 ≤ 99 then (if a.2.1 (259 + p0.toNatClampNeg) ≤ 0 then (.inr 3, a) else (.inl (bst a.2.1 p0.toNatClampNeg p1 p2 99), a)) else (.inr 1, a)) else (.inr 1, a)) else (.inr 0, a)
theorem X_bestNumber {N : Nat} {σ : xSt} {H : List sS} {s : sS} {tx : (Nat → Int32) × Nat} (h : RX σ (H, s, tx)) (hI : Inv N s) (p0 : Int32) (p1 : Int32) (p2 : Int32) : XR (fX11_bestNumber p0 p1 p2 σ) (sp_bestNumber p0 p1 p2 (H, s, tx)) := by
  have hc := hI.caps
  obtain ⟨hcR, hcD, hcS, hcN, hrec, hE5, hE6, hE7, hE9⟩ := id hc
  unfold fX11_bestNumber sp_bestNumber
  rw [X_needRecipe h]
  show XR (xct (if 0 ≤ p0 ∧ p0 ≤ s 5 - 1 then _ else _) _) (if 0 ≤ p0 ∧ p0 ≤ s 5 - 1 then _ else _)
  by_cases g1 : 0 ≤ p0 ∧ p0 ≤ s 5 - 1
  · rw [if_pos g1, if_pos g1, xct_l]
    obtain ⟨r, hr, rfl⟩ := x_cnt hE5 (by omega) g1
    have hr : r < cR s := hr
    rw [nI_clamp (show r < 2 ^ 31 by omega)]
    rw [X_isWithin, xc2_t]
    by_cases k0 : 0 ≤ p1 ∧ p1 ≤ 99
    · rw [if_pos k0, if_pos k0, if_neg (by decide)]
      rw [X_isWithin, xc2_t]
      by_cases k1 : 0 ≤ p2 ∧ p2 ≤ 99
      · rw [if_pos k1, if_pos k1, if_neg (by decide)]
        unfold fX11_bestNumber_c30
        rw [X_needArgument1, xct_l, xr_n (by omega) (by decide), X_at_ncount h (by omega)]
        show XR (if s (259 + r) ≤ 0 then _ else _) (if s (259 + r) ≤ 0 then _ else _)
        by_cases g4 : s (259 + r) ≤ 0
        · rw [if_pos g4, if_pos g4]
          exact ⟨σ, rfl, h⟩
        · rw [if_neg g4, if_neg g4]
          unfold fX11_bestNumber_c50
          rw [X_needElement1, xct_l, X_bestFor h hc (by omega), xc2_t]
          exact ⟨σ, rfl, h⟩
      · rw [if_neg k1, if_neg k1, if_pos rfl]
        exact ⟨σ, rfl, h⟩
    · rw [if_neg k0, if_neg k0, if_pos rfl]
      exact ⟨σ, rfl, h⟩
  · rw [if_neg g1, if_neg g1, xct_r]
    exact ⟨σ, rfl, h⟩
def ck1 (s : sS) : Nat → Int64
  | 0 => 527 + (s 0).toInt64
  | k + 1 => 31 * ck1 s k + (s (11 + k)).toInt64
def ck2 (s : sS) : Nat → Int64
  | 0 => ck1 s 8
  | k + 1 => 31 * (31 * ck2 s k + (s (163 + k)).toInt64) + (s (143 + k)).toInt64
def ck3 (s : sS) : Nat → Int64
  | 0 => ck2 s (cD s)
  | k + 1 => 31 * ck3 s k + (s (223 + k)).toInt64
theorem X_ck3 {σ : xSt} {H : List sS} {s : sS} {tx : (Nat → Int32) × Nat} (h : RX σ (H, s, tx)) (hc : caps s) : ∀ (d i n : Nat), i + d = 4 * cR s → d < n → fX11_checksum_c99 n (ck3 s i) (nI i) σ = some (ck3 s (4 * cR s), σ) := by
  have hcR := hc.1
  have hcD := hc.2.1
  have a1 : σ 4 7 * 4 = nI (4 * cR s) := by rw [X_at_nrec h]; show s 5 * 4 = _; rw [hc.2.2.2.2.2.1, show (4 : Int32) = nI 4 from rfl, nI_mul, Nat.mul_comm]
  intro d
  induction d with
  | zero =>
    intro i n hi hn
    obtain ⟨n, rfl⟩ : ∃ z, n = z + 1 := ⟨n - 1, by omega⟩
    obtain rfl : i = 4 * cR s := by omega
    rw [fX11_checksum_c99_s, a1, if_pos (nI_le (Nat.le_refl _) (by omega))]
  | succ d ih =>
    intro i n hi hn
    obtain ⟨n, rfl⟩ : ∃ z, n = z + 1 := ⟨n - 1, by omega⟩
    have e := ih (i + 1) n (by omega) (by omega)
    rw [fX11_checksum_c99_s, a1, if_neg (nI_ge (by omega) (by omega))]
    have a2 : σ 28 i = s (223 + i) := X_at_breads h (by omega)
    rw [xr_n (by omega) (by decide), a2, xl_t, xl_t, nI_1]
    exact e
theorem X_ck2 {σ : xSt} {H : List sS} {s : sS} {tx : (Nat → Int32) × Nat} (h : RX σ (H, s, tx)) (hc : caps s) : ∀ (d i n : Nat), i + d = cD s → d < n → fX11_checksum_c46 n (ck2 s i) (nI i) σ = some (ck3 s (4 * cR s), σ) := by
  have hcR := hc.1
  have hcD := hc.2.1
  have a1 : σ 12 7 = nI (cD s) := (X_at_ndough h).trans hc.2.2.2.2.2.2.1
  intro d
  induction d with
  | zero =>
    intro i n hi hn
    obtain ⟨n, rfl⟩ : ∃ z, n = z + 1 := ⟨n - 1, by omega⟩
    obtain rfl : i = cD s := by omega
    rw [fX11_checksum_c46_s, a1, if_pos (nI_le (Nat.le_refl _) (by omega))]
    exact X_ck3 h hc (4 * cR s) 0 xFU (by omega) (by show 4 * cR s < 8192; omega)
  | succ d ih =>
    intro i n hi hn
    obtain ⟨n, rfl⟩ : ∃ z, n = z + 1 := ⟨n - 1, by omega⟩
    have e := ih (i + 1) n (by omega) (by omega)
    rw [fX11_checksum_c46_s, a1, if_neg (nI_ge (by omega) (by omega))]
    have a2 : σ 17 i = s (163 + i) := X_at_state h (by omega)
    have a3 : σ 16 i = s (143 + i) := X_at_points h (by omega)
    rw [xr_n (by omega) (by decide), a2, xl_t, xr_n (by omega) (by decide), a3, xl_t, xl_t, nI_1]
    exact e
theorem X_ck1 {σ : xSt} {H : List sS} {s : sS} {tx : (Nat → Int32) × Nat} (h : RX σ (H, s, tx)) (hc : caps s) : ∀ (d i n : Nat), i + d = 8 → d < n → fX11_checksum_c15 n (ck1 s i) (nI i) σ = some (ck3 s (4 * cR s), σ) := by
  have hcR := hc.1
  have hcD := hc.2.1
  intro d
  induction d with
  | zero =>
    intro i n hi hn
    obtain ⟨n, rfl⟩ : ∃ z, n = z + 1 := ⟨n - 1, by omega⟩
    obtain rfl : i = 8 := by omega
    rw [fX11_checksum_c15_s, if_pos (by decide)]
    exact X_ck2 h hc (cD s) 0 xFU (by omega) (by show cD s < 8192; omega)
  | succ d ih =>
    intro i n hi hn
    obtain ⟨n, rfl⟩ : ∃ z, n = z + 1 := ⟨n - 1, by omega⟩
    have e := ih (i + 1) n (by omega) (by omega)
    rw [fX11_checksum_c15_s, if_neg (show ¬ (8 : Int32) ≤ nI (i) from nI_ge (a := i) (b := 8) (by omega) (by decide))]
    have a2 : σ 3 i = s (11 + i) := X_at_grams h (by omega)
    rw [xr_n (by omega) (by decide), a2, xl_t, xl_t, nI_1]
    exact e
theorem X_checksum {σ : xSt} {H : List sS} {s : sS} {tx : (Nat → Int32) × Nat} (h : RX σ (H, s, tx)) (hc : caps s) : fX11_checksum σ = some (ck3 s (4 * cR s), σ) := by
  unfold fX11_checksum
  rw [xl_t, X_at_tick h]
  exact X_ck1 h hc 8 0 xFU rfl (by decide)
def bkG (s : sS) : Int32 := s32 (fun k => s (11 + k)) 8
def bkO (s : sS) (st : Int32) : Int32 := s32 (fun k => if s (163 + k) = st then s (123 + k) * s (19 + drc s k) else 0) (cD s)
def bkT (s : sS) : Int32 := s32 (fun k => if s (163 + k) = 0 ∨ s (163 + k) = 1 then s (123 + k) * s (19 + drc s k) else 0) (cD s)
def brs (s : sS) (r a : Nat) : Int32 := s32 (fun j => s (223 + (4 * r + (a + j)))) (4 - a)
def bkB (s : sS) : Int32 := s32 (fun r => brs s r 0 * s (19 + r)) (cR s)
theorem bkT_eq (s : sS) : bkO s 0 + bkO s 1 = bkT s := by
  unfold bkO bkT
  rw [s32_add]
  refine s32_congr (fun k _ => ?_)
  by_cases g : s (163 + k) = 0
  · rw [if_pos g, if_neg (by rw [g]; decide), if_pos (Or.inl g), Int32.add_zero]
  · rw [if_neg g]
    by_cases g2 : s (163 + k) = 1
    · rw [if_pos g2, if_pos (Or.inr g2), Int32.zero_add]
    · rw [if_neg g2, if_neg (fun h9 => h9.elim g g2), Int32.add_zero]
theorem X_allGrams0 {σ : xSt} {H : List sS} {s : sS} {tx : (Nat → Int32) × Nat} (h : RX σ (H, s, tx)) (hc : caps s) : ∀ (d i n : Nat), i + d = 8 → d < n → fX10_allGrams_c4 n (s32 (fun k => s (11 + k)) i) (nI i) σ = some (bkG s, σ) := by
  have hcR := hc.1
  have hcD := hc.2.1
  intro d
  induction d with
  | zero =>
    intro i n hi hn
    obtain ⟨n, rfl⟩ : ∃ z, n = z + 1 := ⟨n - 1, by omega⟩
    obtain rfl : i = 8 := by omega
    rw [fX10_allGrams_c4_s, if_pos (by decide)]
    rfl
  | succ d ih =>
    intro i n hi hn
    obtain ⟨n, rfl⟩ : ∃ z, n = z + 1 := ⟨n - 1, by omega⟩
    have e := ih (i + 1) n (by omega) (by omega)
    rw [fX10_allGrams_c4_s, if_neg (show ¬ (8 : Int32) ≤ nI (i) from nI_ge (a := i) (b := 8) (by omega) (by decide))]
    have a2 : σ 3 i = s (11 + i) := X_at_grams h (by omega)
    rw [xr_n (by omega) (by decide), a2, xl_t, xl_t, nI_1]
    exact e
theorem X_gramsIn0 {σ : xSt} {H : List sS} {s : sS} {tx : (Nat → Int32) × Nat} (h : RX σ (H, s, tx)) (hc : caps s) (st : Int32) : ∀ (d i n : Nat), i + d = cD s → d < n → fX2_gramsIn_c4 n st (s32 (fun k => if s (163 + k) = st then s (123 + k) * s (19 + drc s k) else 0) i) (nI i) σ = some (bkO s st, σ) := by
  have hcD := hc.2.1
  have a1 : σ 12 7 = nI (cD s) := (X_at_ndough h).trans hc.2.2.2.2.2.2.1
  intro d
  induction d with
  | zero =>
    intro i n hi hn
    obtain ⟨n, rfl⟩ : ∃ z, n = z + 1 := ⟨n - 1, by omega⟩
    obtain rfl : i = cD s := by omega
    rw [fX2_gramsIn_c4_s, a1, if_pos (nI_le (Nat.le_refl _) (by omega))]
    rfl
  | succ d ih =>
    intro i n hi hn
    obtain ⟨n, rfl⟩ : ∃ z, n = z + 1 := ⟨n - 1, by omega⟩
    have e := ih (i + 1) n (by omega) (by omega)
    have a2 : σ 17 i = s (163 + i) := X_at_state h (by omega)
    have a3 : σ 15 i = s (123 + i) * s (19 + drc s i) := X_at_dgrams h (show i < cD s by omega)
    rw [fX2_gramsIn_c4_s, a1, if_neg (nI_ge (by omega) (by omega)), xr_n (by omega) (by decide), a2]
    have e2 : s32 (fun k => if s (163 + k) = st then s (123 + k) * s (19 + drc s k) else 0) (i + 1) = s32 (fun k => if s (163 + k) = st then s (123 + k) * s (19 + drc s k) else 0) i + (if s (163 + i) = st then s (123 + i) * s (19 + drc s i) else 0) := rfl
    rw [e2] at e
    by_cases g : s (163 + i) = st
    · rw [if_pos g] at e ⊢
      rw [xr_n (by omega) (by decide), a3, xl_t, xl_t, nI_1]
      exact e
    · rw [if_neg g] at e ⊢
      rw [xl_t, nI_1]
      rw [Int32.add_zero] at e
      exact e
theorem X_gramsIn {σ : xSt} {H : List sS} {s : sS} {tx : (Nat → Int32) × Nat} (h : RX σ (H, s, tx)) (hc : caps s) (st : Int32) : fX2_gramsIn st σ = some (bkO s st, σ) := X_gramsIn0 h hc st (cD s) 0 xFU (by omega) (by have := hc.2.1; show cD s < 8192; omega)
theorem X_from0 {σ : xSt} {H : List sS} {s : sS} {tx : (Nat → Int32) × Nat} (h : RX σ (H, s, tx)) {r a : Nat} (hr : r < 6) (ha : a ≤ 4) : ∀ (d i n : Nat), i + d = 4 - a → d < n → fX0_from_c5 n (nI r) (s32 (fun j => s (223 + (4 * r + (a + j)))) i) (nI (a + i)) σ = some (brs s r a, σ) := by
  intro d
  induction d with
  | zero =>
    intro i n hi hn
    obtain ⟨n, rfl⟩ : ∃ z, n = z + 1 := ⟨n - 1, by omega⟩
    obtain rfl : i = 4 - a := by omega
    rw [fX0_from_c5_s, show a + (4 - a) = 4 by omega, if_pos (by decide)]
    rfl
  | succ d ih =>
    intro i n hi hn
    obtain ⟨n, rfl⟩ : ∃ z, n = z + 1 := ⟨n - 1, by omega⟩
    have e := ih (i + 1) n (by omega) (by omega)
    have a2 : σ 28 (4 * r + (a + i)) = s (223 + (4 * r + (a + i))) := X_at_breads h (by omega)
    rw [fX0_from_c5_s, if_neg (show ¬ (4 : Int32) ≤ nI (a + i) from nI_ge (a := a + i) (b := 4) (by omega) (by decide)), show (4 : Int32) = nI 4 from rfl, nI_mul, Nat.mul_comm r 4, nI_add, xr_n (by omega) (by decide), a2, xl_t, xl_t, nI_1]
    exact e
theorem X_from {σ : xSt} {H : List sS} {s : sS} {tx : (Nat → Int32) × Nat} (h : RX σ (H, s, tx)) {r a : Nat} (hr : r < 6) (ha : a ≤ 4) : fX0_from (nI r) (nI a) σ = some (brs s r a, σ) := X_from0 h hr ha (4 - a) 0 xFU (by omega) (by show 4 - a < 8192; omega)
theorem X_gramsInBreads0 {σ : xSt} {H : List sS} {s : sS} {tx : (Nat → Int32) × Nat} (h : RX σ (H, s, tx)) (hc : caps s) : ∀ (d i n : Nat), i + d = cR s → d < n → fX11_gramsInBreads_c4 n (s32 (fun r => brs s r 0 * s (19 + r)) i) (nI i) σ = some (bkB s, σ) := by
  have hcR := hc.1
  have hcD := hc.2.1
  have a1 : σ 4 7 = nI (cR s) := (X_at_nrec h).trans hc.2.2.2.2.2.1
  intro d
  induction d with
  | zero =>
    intro i n hi hn
    obtain ⟨n, rfl⟩ : ∃ z, n = z + 1 := ⟨n - 1, by omega⟩
    obtain rfl : i = cR s := by omega
    rw [fX11_gramsInBreads_c4_s, a1, if_pos (nI_le (Nat.le_refl _) (by omega))]
    rfl
  | succ d ih =>
    intro i n hi hn
    obtain ⟨n, rfl⟩ : ∃ z, n = z + 1 := ⟨n - 1, by omega⟩
    have e := ih (i + 1) n (by omega) (by omega)
    rw [fX11_gramsInBreads_c4_s, a1, if_neg (nI_ge (by omega) (by omega))]
    have a2 : σ 5 i = s (19 + i) := X_at_piece h (show i < cR s by omega)
    have a3 := X_from h (r := i) (a := 0) (by omega) (by decide)
    have a3 : fX0_from (nI i) 0 σ = some (brs s i 0, σ) := a3
    rw [a3, xc2_t, xr_n (by omega) (by decide), a2, xl_t, xl_t, nI_1]
    exact e
theorem X_allGrams {σ : xSt} {H : List sS} {s : sS} {tx : (Nat → Int32) × Nat} (h : RX σ (H, s, tx)) (hc : caps s) : fX10_allGrams σ = some (bkG s, σ) := X_allGrams0 h hc 8 0 xFU rfl (by decide)
theorem X_gramsInBreads {σ : xSt} {H : List sS} {s : sS} {tx : (Nat → Int32) × Nat} (h : RX σ (H, s, tx)) (hc : caps s) : fX11_gramsInBreads σ = some (bkB s, σ) := X_gramsInBreads0 h hc (cR s) 0 xFU (by omega) (by have := hc.1; show cR s < 8192; omega)
def sp_book (p0 : Int32) (a : xA) : xO × xA := if 0 ≤ p0 ∧ p0 ≤ 6 then (.inl (if p0 = 0 then a.2.1 8 else if p0 = 1 then a.2.1 9 else if p0 = 2 then a.2.1 10 else if p0 = 3 then bkG a.2.1 else if p0 = 4 then bkT a.2.1 else if p0 = 5 then bkO a.2.1 2 else bkB a.2.1), a) else (.inr 1, a)
theorem X_book {N : Nat} {σ : xSt} {H : List sS} {s : sS} {tx : (Nat → Int32) × Nat} (h : RX σ (H, s, tx)) (hI : Inv N s) (p0 : Int32) : XR (fX11_book p0 σ) (sp_book p0 (H, s, tx)) := by
  have hc := hI.caps
  obtain ⟨hcR, hcD, hcS, hcN, hrec, hE5, hE6, hE7, hE9⟩ := id hc
  unfold fX11_book sp_book
  rw [X_isWithin, xc2_t]
  by_cases g1 : 0 ≤ p0 ∧ p0 ≤ 6
  · rw [if_pos g1, if_pos g1, X_needArgument1, xct_l]
    refine ⟨σ, ?_, h⟩
    by_cases m0 : p0 = 0
    · rw [if_pos m0, if_pos m0, X_at_came h]
    · rw [if_neg m0, if_neg m0]
      by_cases m1 : p0 = 1
      · rw [if_pos m1, if_pos m1, X_at_sold h]
      · rw [if_neg m1, if_neg m1]
        by_cases m2 : p0 = 2
        · rw [if_pos m2, if_pos m2, X_at_gone h]
        · rw [if_neg m2, if_neg m2]
          by_cases m3 : p0 = 3
          · rw [if_pos m3, if_pos m3, X_allGrams h hc, xc2_t]
          · rw [if_neg m3, if_neg m3]
            by_cases m4 : p0 = 4
            · rw [if_pos m4, if_pos m4, X_gramsIn h hc, xc2_t, X_gramsIn h hc, xc2_t, bkT_eq]
            · rw [if_neg m4, if_neg m4]
              by_cases m5 : p0 = 5
              · rw [if_pos m5, if_pos m5, X_gramsIn h hc, xc2_t]
              · rw [if_neg m5, if_neg m5, X_gramsInBreads h hc, xc2_t]
  · rw [if_neg g1, if_neg g1, X_needArgument0, xct_r]
    exact ⟨σ, rfl, h⟩