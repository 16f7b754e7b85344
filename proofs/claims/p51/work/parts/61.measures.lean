/-! ===== MEASURES ===== -/
def mnF (s : sS) : Nat → Int32 := s32 (fun k => s (223 + k))
def mnG (s : sS) : Nat → Int32 := s32 (fun k => s (223 + k) * nI (k % 4))
def xMA (s : sS) : UInt64 := if mnF s 24 ≤ 0 then FP.dconst0 else FP.ddiv (FP.i2d (mnG s 24)) (FP.i2d (mnF s 24))
def mMA (s : sS) : UInt64 := if mnF s (4 * cR s) = 0 then FP.ddiv (FP.i2d (mnG s (4 * cR s))) (FP.i2d 1) else FP.ddiv (FP.i2d (mnG s (4 * cR s))) (FP.i2d (mnF s (4 * cR s)))
theorem s32_ext (f : Nat → Int32) (m : Nat) : ∀ d, (∀ k, m ≤ k → k < m + d → f k = 0) → s32 f (m + d) = s32 f m
  | 0, _ => rfl
  | d + 1, h => by
    show s32 f (m + d) + f (m + d) = s32 f m
    rw [s32_ext f m d (fun k a b => h k a (by omega)), h (m + d) (by omega) (by omega), Int32.add_zero]
theorem s32_zero (f : Nat → Int32) : ∀ n, (∀ k, k < n → f k = 0) → s32 f n = 0
  | 0, _ => rfl
  | n + 1, h => by
    show s32 f n + f n = 0
    rw [s32_zero f n (fun k hk => h k (by omega)), h n (by omega), Int32.add_zero]
theorem bread_sum {N : Nat} {s : sS} (hI : Inv N s) (hN : N ≤ 1000) : (mnF s (4 * cR s)).toInt = sumI (fun k => (s (223 + k)).toInt) (4 * cR s) := by
  have hc := hI.caps.1
  obtain ⟨l1, l2, l3, l4, l5, l6, l7⟩ := led_parts hI
  refine s32_toInt _ (fun k hk => (hI.bread k (by omega)).1) ?_
  have : sumI (fun k => (s (223 + k)).toInt) (4 * cR s) ≤ ldB s := sumI_le _ (fun k hk => by
    have h1 := (hI.bread k (by omega)).1
    have h2 := (hI.rec.1 (k / 4) (by omega)).1.1
    have := Int.mul_le_mul_of_nonneg_left (show (1 : Int) ≤ (s (19 + k / 4)).toInt by omega) h1
    omega)
  omega
theorem ma_eq {N : Nat} {s : sS} (hI : Inv N s) (hN : N ≤ 1000) : xMA s = mMA s := by
  have hc := hI.caps.1
  have hz : ∀ k, 4 * cR s ≤ k → k < 4 * cR s + (24 - 4 * cR s) → s (223 + k) = 0 := fun k a b => (hI.bread k (by omega)).2 a
  have eF : mnF s 24 = mnF s (4 * cR s) := by
    have := s32_ext (fun k => s (223 + k)) (4 * cR s) (24 - 4 * cR s) hz
    rw [show 4 * cR s + (24 - 4 * cR s) = 24 by omega] at this
    exact this
  have eG : mnG s 24 = mnG s (4 * cR s) := by
    have := s32_ext (fun k => s (223 + k) * nI (k % 4)) (4 * cR s) (24 - 4 * cR s) (fun k a b => by
      show s (223 + k) * _ = 0
      rw [hz k a b, Int32.zero_mul])
    rw [show 4 * cR s + (24 - 4 * cR s) = 24 by omega] at this
    exact this
  have hsum := bread_sum hI hN
  have nn : ∀ k, k < 4 * cR s → 0 ≤ (s (223 + k)).toInt := fun k hk => (hI.bread k (by omega)).1
  have n0 := sumI_nn _ nn
  unfold xMA mMA
  rw [eF, eG]
  by_cases g : mnF s (4 * cR s) = 0
  · rw [if_pos g, g, if_pos (show (0 : Int32) ≤ 0 by decide)]
    have hs0 : sumI (fun k => (s (223 + k)).toInt) (4 * cR s) = 0 := by rw [← hsum, g]; rfl
    have z : mnG s (4 * cR s) = 0 := s32_zero _ _ (fun k hk => by
      have := sumI_mem _ nn k hk
      have h0 := nn k hk
      have : s (223 + k) = 0 := by
        rw [fa_eq]; show (s (223 + k)).toInt = 0; omega
      show s (223 + k) * _ = 0
      rw [this, Int32.zero_mul])
    rw [z]
    decide +kernel
  · rw [if_neg g, if_neg (fun h9 => g ?_)]
    rw [fa_le, hsum] at h9
    rw [fa_eq, hsum]
    show _ = (0 : Int)
    have h9 : _ ≤ (0 : Int) := h9
    omega
def tSh (s : sS) : UInt32 := if s 8 = 0 then FP.fconst0 else FP.fdiv (FP.i2f (s 10)) (FP.i2f (s 8))