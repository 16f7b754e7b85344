/-! isMixed: of all mixes one corner costs least -/
theorem crLe {a b c ta tb tc : Int} (ha : 0 < ta) (hb : 0 < tb) (hc : 0 < tc) (h1 : a * tb ≤ b * ta) (h2 : b * tc ≤ c * tb) : a * tc ≤ c * ta := by
  have e1 : tb * (a * tc) = (a * tb) * tc := by rw [Int.mul_comm a tb, Int.mul_assoc]
  have e2 : tb * (c * ta) = (c * tb) * ta := by rw [Int.mul_comm c tb, Int.mul_assoc]
  have e3 : (b * ta) * tc = (b * tc) * ta := by rw [Int.mul_assoc, Int.mul_assoc, Int.mul_comm ta tc]
  have g1 := Int.mul_le_mul_of_nonneg_right h1 (Int.le_of_lt hc)
  have g2 := Int.mul_le_mul_of_nonneg_right h2 (Int.le_of_lt ha)
  rw [e3] at g1
  have l : tb * (a * tc) ≤ tb * (c * ta) := by
    rw [e1, e2]
    exact Int.le_trans g1 g2
  exact Int.le_of_mul_le_mul_left l hb
def W4 (w a : Nat → Int) : Int := sumI (fun f => a f * w f) 4
def one4 : Nat → Int := fun _ => 1
def oh (i : Nat) : Nat → Int := fun f => if f = i then 1 else 0
theorem W4_e (w a : Nat → Int) : W4 w a = a 0 * w 0 + a 1 * w 1 + a 2 * w 2 + a 3 * w 3 := by
  show 0 + a 0 * w 0 + a 1 * w 1 + a 2 * w 2 + a 3 * w 3 = _
  rw [Int.zero_add]
theorem W4_lin (w a b : Nat → Int) (q p : Int) : W4 w (fun f => q * a f + p * b f) = q * W4 w a + p * W4 w b := by
  rw [W4_e, W4_e, W4_e]
  grind
theorem W4_congr {w a b : Nat → Int} (h : ∀ f, f < 4 → a f = b f) : W4 w a = W4 w b := by
  rw [W4_e, W4_e, h 0 (by omega), h 1 (by omega), h 2 (by omega), h 3 (by omega)]
theorem W4_oh (w : Nat → Int) {i : Nat} (hi : i < 4) : W4 w (oh i) = w i := by
  rw [W4_e]
  unfold oh
  rcases (show i = 0 ∨ i = 1 ∨ i = 2 ∨ i = 3 by omega) with e | e | e | e <;> subst e <;> simp
theorem W4_one (a : Nat → Int) : W4 one4 a = sumI a 4 := by
  rw [W4_e]
  show a 0 * 1 + a 1 * 1 + a 2 * 1 + a 3 * 1 = 0 + a 0 + a 1 + a 2 + a 3
  omega
/-- how far a point is from each bound -/
def Gk (s : sS) (lo hi : Int) (k : Nat) (x : Nat → Int) (t : Int) : Int := if k < 4 then x k else if k < 8 then cpI s (k - 4) * t - x (k - 4) else if k = 8 then W4 (stI s) x - 100 * lo * t else 100 * hi * t - W4 (stI s) x
theorem Gk_lin (s : sS) (lo hi : Int) (k : Nat) (x d : Nat → Int) (t q p : Int) : Gk s lo hi k (fun f => q * x f + p * d f) (q * t) = q * Gk s lo hi k x t + p * Gk s lo hi k d 0 := by
  unfold Gk
  rw [W4_lin]
  by_cases c : k < 4
  · rw [if_pos c, if_pos c, if_pos c]
  · rw [if_neg c, if_neg c, if_neg c]
    by_cases c2 : k < 8
    · rw [if_pos c2, if_pos c2, if_pos c2]
      grind
    · rw [if_neg c2, if_neg c2, if_neg c2]
      by_cases c3 : k = 8
      · rw [if_pos c3, if_pos c3, if_pos c3]
        grind
      · rw [if_neg c3, if_neg c3, if_neg c3]
        grind
def fG (s : sS) (lo hi : Int) (x : Nat → Int) (t : Int) : Prop := 0 < t ∧ (∀ k, k < 10 → 0 ≤ Gk s lo hi k x t) ∧ W4 one4 x = 100 * t
theorem fG_of {s : sS} {lo hi : Int} {c : Cd} (h : feas s lo hi c) : fG s lo hi c.1 c.2 := by
  obtain ⟨h1, h2, h3, h4, h5⟩ := h
  refine ⟨h1, fun k hk => ?_, by rw [W4_one]; exact h3⟩
  unfold Gk
  by_cases c1 : k < 4
  · rw [if_pos c1]
    exact (h2 k c1).1
  · rw [if_neg c1]
    by_cases c2 : k < 8
    · rw [if_pos c2]
      have := (h2 (k - 4) (by omega)).2
      omega
    · rw [if_neg c2]
      have h4 : 100 * lo * c.2 ≤ W4 (stI s) c.1 := h4
      have h5 : W4 (stI s) c.1 ≤ 100 * hi * c.2 := h5
      by_cases c3 : k = 8
      · rw [if_pos c3]
        omega
      · rw [if_neg c3]
        omega
theorem of_fG {s : sS} {lo hi : Int} {x : Nat → Int} {t : Int} (h : fG s lo hi x t) : feas s lo hi (x, t) := by
  obtain ⟨h1, h2, h3⟩ := h
  refine ⟨h1, fun f hf => ⟨?_, ?_⟩, by rw [← W4_one]; exact h3, ?_, ?_⟩
  · have := h2 f (by omega)
    unfold Gk at this
    rw [if_pos hf] at this
    exact this
  · have := h2 (f + 4) (by omega)
    unfold Gk at this
    rw [if_neg (by omega), if_pos (by omega), Nat.add_sub_cancel] at this
    show x f ≤ cpI s f * t
    omega
  · have := h2 8 (by omega)
    unfold Gk at this
    rw [if_neg (by omega), if_neg (by omega), if_pos rfl] at this
    show 100 * lo * t ≤ W4 (stI s) x
    omega
  · have := h2 9 (by omega)
    unfold Gk at this
    rw [if_neg (by omega), if_neg (by omega), if_neg (by omega)] at this
    show W4 (stI s) x ≤ 100 * hi * t
    omega
def nt (s : sS) (lo hi : Int) (x : Nat → Int) (t : Int) : Nat := cnB (fun k => decide (Gk s lo hi k x t = 0)) 10
theorem least_ratio {A D : Nat → Int} : ∀ n, (∃ k, k < n ∧ D k < 0) → ∃ k0, k0 < n ∧ D k0 < 0 ∧ ∀ k, k < n → D k < 0 → A k0 * (-D k) ≤ A k * (-D k0)
  | 0, ⟨k, h, _⟩ => absurd h (Nat.not_lt_zero _)
  | n + 1, ⟨k, h1, h2⟩ => by
    by_cases c : ∃ k, k < n ∧ D k < 0
    · obtain ⟨k0, g1, g2, g3⟩ := least_ratio (A := A) (D := D) n c
      by_cases c2 : D n < 0 ∧ A n * (-D k0) < A k0 * (-D n)
      · refine ⟨n, Nat.lt_succ_self n, c2.1, fun i hi hd => ?_⟩
        by_cases c3 : i = n
        · rw [c3]
          exact Int.le_refl _
        · exact crLe (by omega) (show 0 < -D k0 by omega) (by omega) (Int.le_of_lt c2.2) (g3 i (by omega) hd)
      · refine ⟨k0, by omega, g2, fun i hi hd => ?_⟩
        by_cases c3 : i = n
        · rw [c3] at hd ⊢
          by_cases c4 : A n * (-D k0) < A k0 * (-D n)
          · exact absurd ⟨hd, c4⟩ c2
          · omega
        · exact g3 i (by omega) hd
    · have e : ∀ i, i < n + 1 → D i < 0 → i = n := fun i hi hd => by
        by_cases c3 : i = n
        · exact c3
        · exact absurd ⟨i, by omega, hd⟩ c
      refine ⟨k, h1, h2, fun i hi hd => ?_⟩
      rw [e i hi hd, e k h1 h2]
      exact Int.le_refl _
/-- from a point along a way that costs no more, until a bound is met -/
theorem vx_step {s : sS} {lo hi : Int} {x d : Nat → Int} {t : Int} (hf : fG s lo hi x t) (h0 : W4 one4 d = 0) (hne : ∃ f, f < 4 ∧ d f ≠ 0) (hd : ∀ k, k < 10 → Gk s lo hi k x t = 0 → Gk s lo hi k d 0 = 0) (hc : W4 (ctI s) d ≤ 0) : ∃ x' t', fG s lo hi x' t' ∧ W4 (ctI s) x' * t ≤ W4 (ctI s) x * t' ∧ nt s lo hi x t < nt s lo hi x' t' := by
  obtain ⟨f1, f2, f3⟩ := hf
  have neg : ∃ k, k < 10 ∧ Gk s lo hi k d 0 < 0 := by
    have e : d 0 * 1 + d 1 * 1 + d 2 * 1 + d 3 * 1 = 0 := by
      have := W4_e one4 d
      rw [h0] at this
      exact this.symm
    have gk : ∀ f, f < 4 → Gk s lo hi f d 0 = d f := fun f hf => if_pos hf
    obtain ⟨f, g1, g2⟩ := hne
    by_cases n0 : d 0 < 0
    · exact ⟨0, by omega, by rw [gk 0 (by omega)]; exact n0⟩
    · by_cases n1 : d 1 < 0
      · exact ⟨1, by omega, by rw [gk 1 (by omega)]; exact n1⟩
      · by_cases n2 : d 2 < 0
        · exact ⟨2, by omega, by rw [gk 2 (by omega)]; exact n2⟩
        · by_cases n3 : d 3 < 0
          · exact ⟨3, by omega, by rw [gk 3 (by omega)]; exact n3⟩
          · exfalso
            rcases (show f = 0 ∨ f = 1 ∨ f = 2 ∨ f = 3 by omega) with e2 | e2 | e2 | e2 <;> subst e2 <;> omega
  obtain ⟨k0, k1, k2, k3⟩ := least_ratio (A := fun k => Gk s lo hi k x t) (D := fun k => Gk s lo hi k d 0) 10 neg
  have k2 : Gk s lo hi k0 d 0 < 0 := k2
  have k3 : ∀ k, k < 10 → Gk s lo hi k d 0 < 0 → Gk s lo hi k0 x t * (-Gk s lo hi k d 0) ≤ Gk s lo hi k x t * (-Gk s lo hi k0 d 0) := k3
  have g0 := f2 k0 k1
  have gn : ¬ Gk s lo hi k0 x t = 0 := fun h9 => by
    have := hd k0 k1 h9
    omega
  have lin := fun k => Gk_lin s lo hi k x d t (-Gk s lo hi k0 d 0) (Gk s lo hi k0 x t)
  have hq : 0 < -Gk s lo hi k0 d 0 := by omega
  have hp : 0 < Gk s lo hi k0 x t := by omega
  have lin0 : Gk s lo hi k0 (fun f => -Gk s lo hi k0 d 0 * x f + Gk s lo hi k0 x t * d f) (-Gk s lo hi k0 d 0 * t) = 0 := by
    rw [lin k0]
    grind
  generalize hp9 : Gk s lo hi k0 x t = p at *
  generalize -Gk s lo hi k0 d 0 = q at *
  refine ⟨fun f => q * x f + p * d f, q * t, ⟨Int.mul_pos hq f1, fun k hk => ?_, ?_⟩, ?_, ?_⟩
  · rw [lin k]
    have a1 := f2 k hk
    by_cases c : Gk s lo hi k d 0 < 0
    · have := k3 k hk c
      have e : p * -Gk s lo hi k d 0 = -(p * Gk s lo hi k d 0) := Int.mul_neg _ _
      rw [e, Int.mul_comm (Gk s lo hi k x t) q] at this
      omega
    · have b1 := Int.mul_nonneg (Int.le_of_lt hq) a1
      have b2 := Int.mul_nonneg (Int.le_of_lt hp) (show 0 ≤ Gk s lo hi k d 0 by omega)
      omega
  · rw [W4_lin, h0, f3, Int.mul_zero, Int.add_zero]
    grind
  · rw [W4_lin]
    have b := Int.mul_nonneg (Int.mul_nonneg (Int.le_of_lt hp) (Int.le_of_lt f1)) (show 0 ≤ -W4 (ctI s) d by omega)
    have e : (q * W4 (ctI s) x + p * W4 (ctI s) d) * t = W4 (ctI s) x * (q * t) - p * t * -W4 (ctI s) d := by grind
    rw [e]
    omega
  · refine cnB_lt k1 (decide_eq_false (by rw [hp9]; exact gn)) (decide_eq_true lin0) (fun k hk h => ?_)
    have h := of_decide_eq_true h
    refine decide_eq_true ?_
    rw [lin k, h, hd k hk h, Int.mul_zero, Int.mul_zero, Int.add_zero]
