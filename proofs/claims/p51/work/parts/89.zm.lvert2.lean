/-! isMixed: corners -/
theorem Gk_neg (s : sS) (lo hi : Int) (k : Nat) (d : Nat → Int) : Gk s lo hi k (fun f => -1 * d f + 0 * d f) 0 = -Gk s lo hi k d 0 := by
  have := Gk_lin s lo hi k d d 0 (-1) 0
  rw [show (-1 : Int) * 0 = 0 by omega] at this
  rw [this]
  omega
/-- a way or the way back -/
theorem vx_way {s : sS} {lo hi : Int} {x d : Nat → Int} {t : Int} (hf : fG s lo hi x t) (h0 : W4 one4 d = 0) (hne : ∃ f, f < 4 ∧ d f ≠ 0) (hd : ∀ k, k < 10 → Gk s lo hi k x t = 0 → Gk s lo hi k d 0 = 0) : ∃ x' t', fG s lo hi x' t' ∧ W4 (ctI s) x' * t ≤ W4 (ctI s) x * t' ∧ nt s lo hi x t < nt s lo hi x' t' := by
  by_cases c : W4 (ctI s) d ≤ 0
  · exact vx_step hf h0 hne hd c
  · refine vx_step (d := fun f => -1 * d f + 0 * d f) hf ?_ ?_ (fun k hk h9 => ?_) ?_
    · rw [W4_lin, h0]
      omega
    · obtain ⟨f, f1, f2⟩ := hne
      exact ⟨f, f1, by omega⟩
    · rw [Gk_neg, hd k hk h9]
      omega
    · rw [W4_lin]
      omega
def fr (s : sS) (x : Nat → Int) (t : Int) (f : Nat) : Prop := x f ≠ 0 ∧ cpI s f * t - x f ≠ 0
def d2 (i j : Nat) : Nat → Int := fun f => 1 * oh i f + -1 * oh j f
theorem W4_d2 (w : Nat → Int) {i j : Nat} (hi : i < 4) (hj : j < 4) : W4 w (d2 i j) = w i - w j := by
  unfold d2
  rw [W4_lin, W4_oh w hi, W4_oh w hj]
  omega
theorem d2_i {i j : Nat} (h : i ≠ j) : d2 i j i = 1 := by
  unfold d2 oh
  rw [if_pos rfl, if_neg h]
  omega
theorem d2_0 {i j f : Nat} (h1 : f ≠ i) (h2 : f ≠ j) : d2 i j f = 0 := by
  unfold d2 oh
  rw [if_neg h1, if_neg h2]
  omega
/-- a way that moves only what is free keeps the bounds that are met -/
theorem way_ok {s : sS} {lo hi : Int} {x d : Nat → Int} {t : Int} (hz : ∀ f, f < 4 → ¬ fr s x t f → d f = 0) (hs : (Gk s lo hi 8 x t = 0 ∨ Gk s lo hi 9 x t = 0) → W4 (stI s) d = 0) : ∀ k, k < 10 → Gk s lo hi k x t = 0 → Gk s lo hi k d 0 = 0 := by
  intro k hk h
  by_cases c1 : k < 4
  · have e : Gk s lo hi k x t = x k := if_pos c1
    rw [e] at h
    have := hz k c1 (fun h9 => h9.1 h)
    show (if k < 4 then d k else _) = 0
    rw [if_pos c1]
    exact this
  · by_cases c2 : k < 8
    · have e : Gk s lo hi k x t = cpI s (k - 4) * t - x (k - 4) := by
        unfold Gk
        rw [if_neg c1, if_pos c2]
      rw [e] at h
      have := hz (k - 4) (by omega) (fun h9 => h9.2 h)
      unfold Gk
      rw [if_neg c1, if_pos c2, this, Int.mul_zero]
      omega
    · have h89 : Gk s lo hi 8 x t = 0 ∨ Gk s lo hi 9 x t = 0 := by
        by_cases c3 : k = 8
        · rw [c3] at h
          exact Or.inl h
        · have e9 : k = 9 := by omega
          rw [e9] at h
          exact Or.inr h
      have := hs h89
      unfold Gk
      rw [if_neg c1, if_neg c2, this]
      split <;> omega
/-- two points in one place -/
theorem fG_eq {s : sS} {lo hi : Int} {x y : Nat → Int} {t u : Int} (h : fG s lo hi x t) (hu : 0 < u) (e : ∀ f, f < 4 → x f * u = y f * t) : fG s lo hi y u ∧ W4 (ctI s) y * t = W4 (ctI s) x * u := by
  obtain ⟨h1, h2, h3⟩ := h
  have l : ∀ w, u * W4 w x = t * W4 w y := fun w => by
    have a1 := W4_lin w x x u 0
    have a2 := W4_lin w y y t 0
    have a3 : W4 w (fun f => u * x f + 0 * x f) = W4 w (fun f => t * y f + 0 * y f) := W4_congr (fun f hf => by
      have := e f hf
      rw [Int.mul_comm u, Int.mul_comm t, this, Int.zero_mul, Int.zero_mul])
    rw [a1, a2, Int.zero_mul, Int.zero_mul] at a3
    omega
  have lk : ∀ k, t * Gk s lo hi k y u = u * Gk s lo hi k x t := fun k => by
    unfold Gk
    have lw := l (stI s)
    by_cases c1 : k < 4
    · rw [if_pos c1, if_pos c1]
      have := e k c1
      rw [Int.mul_comm t, Int.mul_comm u]
      exact this.symm
    · rw [if_neg c1, if_neg c1]
      by_cases c2 : k < 8
      · rw [if_pos c2, if_pos c2]
        have := e (k - 4) (by omega)
        rw [Int.mul_sub, Int.mul_sub, Int.mul_comm t (y _), Int.mul_comm u (x _), this, show t * (cpI s (k - 4) * u) = u * (cpI s (k - 4) * t) by grind]
      · rw [if_neg c2, if_neg c2]
        by_cases c3 : k = 8
        · rw [if_pos c3, if_pos c3, Int.mul_sub, Int.mul_sub, lw, show t * (100 * lo * u) = u * (100 * lo * t) by grind]
        · rw [if_neg c3, if_neg c3, Int.mul_sub, Int.mul_sub, lw, show t * (100 * hi * u) = u * (100 * hi * t) by grind]
  refine ⟨⟨hu, fun k hk => ?_, ?_⟩, ?_⟩
  · have a := Int.mul_nonneg (Int.le_of_lt hu) (h2 k hk)
    rw [← lk k] at a
    by_cases c : 0 ≤ Gk s lo hi k y u
    · exact c
    · have := Int.mul_pos h1 (show 0 < -Gk s lo hi k y u by omega)
      rw [Int.mul_neg] at this
      omega
  · have := l one4
    rw [h3] at this
    refine Int.eq_of_mul_eq_mul_left (Int.ne_of_gt h1) ?_
    rw [← this]
    grind
  · have := l (ctI s)
    rw [Int.mul_comm _ t, Int.mul_comm _ u]
    exact this.symm
/-- what is not free is nothing or all -/
theorem nfr {s : sS} {x : Nat → Int} {t : Int} {f : Nat} (h : ¬ fr s x t f) : x f = 0 ∨ x f = cpI s f * t := by
  by_cases c : x f = 0
  · exact Or.inl c
  · by_cases c2 : cpI s f * t - x f = 0
    · exact Or.inr (by omega)
    · exact absurd ⟨c, c2⟩ h
def capS (s : sS) (x : Nat → Int) (t : Int) (i j : Nat) (f : Nat) : Bool := decide (f ≠ i ∧ f ≠ j ∧ x f ≠ 0)
theorem eS_x {s : sS} {x : Nat → Int} {t : Int} {i j f : Nat} (hf : f < 4) (h1 : f ≠ i) (h2 : f ≠ j) (h : ¬ fr s x t f) : x f = eS s (capS s x t i j) f * t := by
  unfold eS
  by_cases c : x f = 0
  · rw [if_neg (fun h9 => (of_decide_eq_true h9.2).2.2 c), c, Int.zero_mul]
  · rw [if_pos ⟨hf, decide_eq_true ⟨h1, h2, c⟩⟩]
    rcases nfr h with h9 | h9
    · exact absurd h9 c
    · exact h9
theorem eS_i {s : sS} {x : Nat → Int} {t : Int} {i j : Nat} : eS s (capS s x t i j) i = 0 ∧ eS s (capS s x t i j) j = 0 := by
  refine ⟨if_neg (fun h9 => (of_decide_eq_true h9.2).1 rfl), if_neg (fun h9 => (of_decide_eq_true h9.2).2.1 rfl)⟩
/-- the sums of a point of which two are free -/
theorem sum2 {s : sS} {x : Nat → Int} {t : Int} {i j : Nat} (hij : i ≠ j) (hi : i < 4) (hj : j < 4) (h : ∀ f, f < 4 → f ≠ i → f ≠ j → ¬ fr s x t f) (w : Nat → Int) : W4 w x = t * W4 w (eS s (capS s x t i j)) + (x i * w i + x j * w j) := by
  have e : W4 w x = W4 w (fun f => t * eS s (capS s x t i j) f + 1 * (x i * oh i f + x j * oh j f)) := W4_congr (fun f hf => by
    unfold oh
    by_cases c1 : f = i
    · subst c1
      rw [eS_i.1, if_pos rfl, if_neg hij]
      omega
    · by_cases c2 : f = j
      · subst c2
        rw [eS_i.2, if_neg c1, if_pos rfl]
        omega
      · rw [if_neg c1, if_neg c2, Int.mul_comm t, ← eS_x hf c1 c2 (h f hf c1 c2)]
        omega)
  rw [e, W4_lin, W4_lin, W4_oh w hi, W4_oh w hj]
  omega
theorem vx_two {s : sS} {lo hi : Int} {x : Nat → Int} {t w : Int} {i j : Nat} (hf : fG s lo hi x t) (hi4 : i < 4) (hj4 : j < 4) (hl : stI s j < stI s i) (h : ∀ f, f < 4 → f ≠ i → f ≠ j → ¬ fr s x t f) (hw : w = lo ∨ w = hi) (hs : W4 (stI s) x = 100 * w * t) : ∃ c, TC s lo hi c ∧ feas s lo hi c ∧ W4 (ctI s) c.1 * t ≤ W4 (ctI s) x * c.2 := by
  have hij : i ≠ j := fun e => by
    rw [e] at hl
    omega
  have s1 := sum2 hij hi4 hj4 h one4
  have s2 := sum2 hij hi4 hj4 h (stI s)
  rw [hf.2.2] at s1
  rw [hs] at s2
  have s1 : 100 * t = t * W4 one4 (eS s (capS s x t i j)) + (x i * 1 + x j * 1) := s1
  have e1 : W4 one4 (eS s (capS s x t i j)) = sumI (eS s (capS s x t i j)) 4 := W4_one _
  have e2 : W4 (stI s) (eS s (capS s x t i j)) = sumI (fun g => eS s (capS s x t i j) g * stI s g) 4 := rfl
  rw [e1] at s1
  rw [e2] at s2
  have ti : capS s x t i j i = false := decide_eq_false (fun h9 => h9.1 rfl)
  have tj : capS s x t i j j = false := decide_eq_false (fun h9 => h9.2.1 rfl)
  obtain ⟨q1, q2⟩ := fG_eq (y := (twoC s (capS s x t i j) i j w).1) (u := (twoC s (capS s x t i j) i j w).2) hf (show 0 < stI s i - stI s j by omega) (fun f hf4 => by
    show x f * (stI s i - stI s j) = (if f = j then (100 - sumI (eS s (capS s x t i j)) 4) * stI s i - (100 * w - sumI (fun g => eS s (capS s x t i j) g * stI s g) 4) else if f = i then (100 * w - sumI (fun g => eS s (capS s x t i j) g * stI s g) 4) - (100 - sumI (eS s (capS s x t i j)) 4) * stI s j else eS s (capS s x t i j) f * (stI s i - stI s j)) * t
    by_cases c2 : f = j
    · rw [if_pos c2, c2]
      generalize sumI (eS s (capS s x t i j)) 4 = A at *
      generalize sumI (fun g => eS s (capS s x t i j) g * stI s g) 4 = B at *
      have ex : x i = 100 * t - t * A - x j := by omega
      rw [ex] at s2
      grind
    · by_cases c1 : f = i
      · rw [if_neg c2, if_pos c1, c1]
        generalize sumI (eS s (capS s x t i j)) 4 = A at *
        generalize sumI (fun g => eS s (capS s x t i j) g * stI s g) 4 = B at *
        have ex : x j = 100 * t - t * A - x i := by omega
        rw [ex] at s2
        grind
      · rw [if_neg c2, if_neg c1, eS_x hf4 c1 c2 (h f hf4 c1 c2)]
        grind)
  refine ⟨twoC s (capS s x t i j) i j w, Or.inr ⟨_, i, j, w, hi4, hj4, ti, tj, hl, hw, rfl⟩, of_fG q1, Int.le_of_eq q2⟩
theorem vx_one {s : sS} {lo hi : Int} {x : Nat → Int} {t : Int} {i : Nat} (hf : fG s lo hi x t) (hi4 : i < 4) (h : ∀ f, f < 4 → f ≠ i → ¬ fr s x t f) : ∃ c, TC s lo hi c ∧ feas s lo hi c ∧ W4 (ctI s) c.1 * t ≤ W4 (ctI s) x * c.2 := by
  have e : W4 one4 x = W4 one4 (fun f => t * eS s (capS s x t i i) f + x i * oh i f) := W4_congr (fun f hf4 => by
    unfold oh
    by_cases c1 : f = i
    · subst c1
      rw [eS_i.1, if_pos rfl]
      omega
    · rw [if_neg c1, Int.mul_comm t, ← eS_x hf4 c1 c1 (h f hf4 c1)]
      omega)
  rw [W4_lin, W4_oh one4 hi4, hf.2.2, W4_one] at e
  have e : 100 * t = t * sumI (eS s (capS s x t i i)) 4 + x i * 1 := e
  have ti : capS s x t i i i = false := decide_eq_false (fun h9 => h9.1 rfl)
  obtain ⟨q1, q2⟩ := fG_eq (y := (oneC s (capS s x t i i) i).1) (u := (oneC s (capS s x t i i) i).2) hf (show (0 : Int) < 1 by omega) (fun f hf4 => by
    show x f * 1 = (if f = i then 100 - sumI (eS s (capS s x t i i)) 4 else eS s (capS s x t i i) f) * t
    by_cases c1 : f = i
    · rw [if_pos c1, c1]
      generalize sumI (eS s (capS s x t i i)) 4 = A at *
      rw [Int.sub_mul, Int.mul_comm A t]
      omega
    · rw [if_neg c1, ← eS_x hf4 c1 c1 (h f hf4 c1)]
      omega)
  exact ⟨oneC s (capS s x t i i) i, Or.inl ⟨_, i, hi4, ti, rfl⟩, of_fG q1, Int.le_of_eq q2⟩
