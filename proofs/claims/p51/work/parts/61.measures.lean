/-! ===== MEASURES ===== -/
def mnF (s : sS) : Nat → Int32 := s32 (fun k => s (223 + k))
def mnG (s : sS) : Nat → Int32 := s32 (fun k => s (223 + k) * nI (k % 4))
theorem X_maInner {σ : xSt} {a : xA} (h : RX σ a) (k6 : (Int32 → Int32 → Int32 → xSt → Option (UInt64 × xSt))) {r : Nat} (hr : r < 6) : ∀ (d j n : Nat), j + d = 4 → d < n → fX11_meanAge_c15 k6 n (mnF a.2.1 (4 * r + j)) (mnG a.2.1 (4 * r + j)) (nI r) (nI j) σ = k6 (mnF a.2.1 (4 * (r + 1))) (mnG a.2.1 (4 * (r + 1))) (nI (r + 1)) σ := by
  intro d
  induction d with
  | zero =>
    intro j n hj hn
    obtain ⟨n, rfl⟩ : ∃ z, n = z + 1 := ⟨n - 1, by omega⟩
    obtain rfl : j = 4 := by omega
    rw [fX11_meanAge_c15_s, if_pos (show (4 : Int32) ≤ nI 4 by decide), xl_t, nI_1]
    rfl
  | succ d ih =>
    intro j n hj hn
    obtain ⟨n, rfl⟩ : ∃ z, n = z + 1 := ⟨n - 1, by omega⟩
    have a1 : σ 28 (4 * r + j) = a.2.1 (223 + (4 * r + j)) := X_at_breads h (by omega)
    have e1 : mnF a.2.1 (4 * r + (j + 1)) = mnF a.2.1 (4 * r + j) + a.2.1 (223 + (4 * r + j)) := rfl
    have e2 : mnG a.2.1 (4 * r + (j + 1)) = mnG a.2.1 (4 * r + j) + a.2.1 (223 + (4 * r + j)) * nI ((4 * r + j) % 4) := rfl
    rw [fX11_meanAge_c15_s, if_neg (show ¬ (4 : Int32) ≤ nI j from nI_ge (a := j) (b := 4) (by omega) (by decide)), show (4 : Int32) = nI 4 from rfl, nI_mul, Nat.mul_comm r 4, nI_add, xr_n (by omega) (by decide), a1, xl_t, xl_t, xl_t, nI_1]
    rw [show (4 * r + j) % 4 = j by omega] at e2
    rw [← e1, ← e2]
    exact ih (j + 1) n (by omega) (by omega)
def xMA (s : sS) : UInt64 := if mnF s 24 ≤ 0 then FP.dconst0 else FP.ddiv (FP.i2d (mnG s 24)) (FP.i2d (mnF s 24))
theorem X_maOuter {σ : xSt} {a : xA} (h : RX σ a) : ∀ (d r n : Nat), r + d = 6 → d < n → fX11_meanAge_c6 n (mnF a.2.1 (4 * r)) (mnG a.2.1 (4 * r)) (nI r) σ = some (xMA a.2.1, σ) := by
  intro d
  induction d with
  | zero =>
    intro r n hr hn
    obtain ⟨n, rfl⟩ : ∃ z, n = z + 1 := ⟨n - 1, by omega⟩
    obtain rfl : r = 6 := by omega
    rw [fX11_meanAge_c6_s, if_pos (show (6 : Int32) ≤ nI 6 by decide)]
    unfold xMA
    show (if mnF a.2.1 24 ≤ 0 then _ else _) = some ((if mnF a.2.1 24 ≤ 0 then _ else _), σ)
    split <;> rfl
  | succ d ih =>
    intro r n hr hn
    obtain ⟨n, rfl⟩ : ∃ z, n = z + 1 := ⟨n - 1, by omega⟩
    rw [fX11_meanAge_c6_s, if_neg (show ¬ (6 : Int32) ≤ nI r from nI_ge (a := r) (b := 6) (by omega) (by decide))]
    exact (X_maInner h _ (r := r) (by omega) 4 0 xFU rfl (by decide)).trans (ih (r + 1) n (by omega) (by omega))
theorem X_meanAge {σ : xSt} {a : xA} (h : RX σ a) : fX11_meanAge σ = some (xMA a.2.1, σ) := X_maOuter h 6 0 xFU rfl (by decide)
def mMA (s : sS) : UInt64 := if mnF s (4 * cR s) = 0 then FP.ddiv (FP.i2d (mnG s (4 * cR s))) (FP.i2d 1) else FP.ddiv (FP.i2d (mnG s (4 * cR s))) (FP.i2d (mnF s (4 * cR s)))
theorem s32_ext (f : Nat → Int32) (m : Nat) : ∀ d, (∀ k, m ≤ k → k < m + d → f k = 0) → s32 f (m + d) = s32 f m
  | 0, _ => rfl
  | d + 1, h => by
    show s32 f (m + d) + f (m + d) = s32 f m
    rw [s32_ext f m d (fun k a b => h k a (by omega)), h (m + d) (by omega) (by omega), Int32.add_zero]
theorem s32_zero (f : Nat → Int32) : ∀ n, (∀ k, k < n → f k = 0) → s32 f n = 0
  | 0, _ => rfl
  | n + 1, h => by
    show s32 f n + f n = 0
    rw [s32_zero f n (fun k hk => h k (by omega)), h n (by omega), Int32.add_zero]
theorem bread_sum {N : Nat} {s : sS} (hI : Inv N s) (hN : N ≤ 1000) : (mnF s (4 * cR s)).toInt = sumI (fun k => (s (223 + k)).toInt) (4 * cR s) := by
  have hc := hI.caps.1
  obtain ⟨l1, l2, l3, l4, l5, l6, l7⟩ := led_parts hI
  refine s32_toInt _ (fun k hk => (hI.bread k (by omega)).1) ?_
  have : sumI (fun k => (s (223 + k)).toInt) (4 * cR s) ≤ ldB s := sumI_le _ (fun k hk => by
    have h1 := (hI.bread k (by omega)).1
    have h2 := (hI.rec.1 (k / 4) (by omega)).1.1
    have := Int.mul_le_mul_of_nonneg_left (show (1 : Int) ≤ (s (19 + k / 4)).toInt by omega) h1
    omega)
  omega
theorem ma_eq {N : Nat} {s : sS} (hI : Inv N s) (hN : N ≤ 1000) : xMA s = mMA s := by
  have hc := hI.caps.1
  have hz : ∀ k, 4 * cR s ≤ k → k < 4 * cR s + (24 - 4 * cR s) → s (223 + k) = 0 := fun k a b => (hI.bread k (by omega)).2 a
  have eF : mnF s 24 = mnF s (4 * cR s) := by
    have := s32_ext (fun k => s (223 + k)) (4 * cR s) (24 - 4 * cR s) hz
    rw [show 4 * cR s + (24 - 4 * cR s) = 24 by omega] at this
    exact this
  have eG : mnG s 24 = mnG s (4 * cR s) := by
    have := s32_ext (fun k => s (223 + k) * nI (k % 4)) (4 * cR s) (24 - 4 * cR s) (fun k a b => by
      show s (223 + k) * _ = 0
      rw [hz k a b, Int32.zero_mul])
    rw [show 4 * cR s + (24 - 4 * cR s) = 24 by omega] at this
    exact this
  have hsum := bread_sum hI hN
  have nn : ∀ k, k < 4 * cR s → 0 ≤ (s (223 + k)).toInt := fun k hk => (hI.bread k (by omega)).1
  have n0 := sumI_nn _ nn
  unfold xMA mMA
  rw [eF, eG]
  by_cases g : mnF s (4 * cR s) = 0
  · rw [if_pos g, g, if_pos (show (0 : Int32) ≤ 0 by decide)]
    have hs0 : sumI (fun k => (s (223 + k)).toInt) (4 * cR s) = 0 := by rw [← hsum, g]; rfl
    have z : mnG s (4 * cR s) = 0 := s32_zero _ _ (fun k hk => by
      have := sumI_mem _ nn k hk
      have h0 := nn k hk
      have : s (223 + k) = 0 := by
        rw [fa_eq]; show (s (223 + k)).toInt = 0; omega
      show s (223 + k) * _ = 0
      rw [this, Int32.zero_mul])
    rw [z]
    decide +kernel
  · rw [if_neg g, if_neg (fun h9 => g ?_)]
    rw [fa_le, hsum] at h9
    rw [fa_eq, hsum]
    show _ = (0 : Int)
    have h9 : _ ≤ (0 : Int) := h9
    omega
def tSh (s : sS) : UInt32 := if s 8 = 0 then FP.fconst0 else FP.fdiv (FP.i2f (s 10)) (FP.i2f (s 8))
theorem X_thrownShare {N : Nat} {σ : xSt} {H : List sS} {s : sS} {tx : (Nat → Int32) × Nat} (h : RX σ (H, s, tx)) (hI : Inv N s) : fX11_thrownShare σ = some (tSh s, σ) := by
  have a1 : σ 2 1 = s 8 := X_at_came h
  have a2 : σ 2 3 = s 10 := X_at_gone h
  obtain ⟨l1, l2, l3, l4, l5, l6, l7⟩ := led_parts hI
  unfold fX11_thrownShare tSh
  rw [a1, a2]
  by_cases g : s 8 = 0
  · rw [if_pos g, if_pos (show s 8 ≤ 0 by rw [g]; decide)]
  · rw [if_neg g, if_neg (fun h9 => g ?_)]
    rw [fa_le] at h9
    have h9 : (s 8).toInt ≤ 0 := h9
    rw [fa_eq]
    show _ = (0 : Int)
    omega