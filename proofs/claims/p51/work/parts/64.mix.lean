/-! ===== THE CHEAPEST MIX: what a mix is, and when one is better ===== -/
theorem mulAbs {a b : Int} {A B : Nat} (h1 : -(A : Int) ≤ a) (h2 : a ≤ A) (h3 : -(B : Int) ≤ b) (h4 : b ≤ B) : -((A * B : Nat) : Int) ≤ a * b ∧ a * b ≤ ((A * B : Nat) : Int) := by
  have h5 : (a * b).natAbs ≤ A * B := by
    rw [Int.natAbs_mul]
    exact Nat.mul_le_mul (by omega) (by omega)
  generalize a * b = z at h5 ⊢
  generalize A * B = W at h5 ⊢
  omega
theorem mulNN {a b : Int} {A B : Nat} (h1 : 0 ≤ a) (h2 : a ≤ A) (h3 : 0 ≤ b) (h4 : b ≤ B) : 0 ≤ a * b ∧ a * b ≤ ((A * B : Nat) : Int) := ⟨Int.mul_nonneg h1 h3, (mulAbs (by omega) h2 (by omega) h4).2⟩
def stI (s : sS) (f : Nat) : Int := (s (247 + f)).toInt
def ctI (s : sS) (f : Nat) : Int := (s (251 + f)).toInt
def cpI (s : sS) (f : Nat) : Int := (s (255 + f)).toInt
theorem fl_b {N : Nat} {s : sS} (h : Inv N s) {f : Nat} (hf : f < 4) : 0 ≤ stI s f ∧ stI s f ≤ 200 ∧ 0 ≤ ctI s f ∧ ctI s f ≤ 999 ∧ 0 ≤ cpI s f ∧ cpI s f ≤ 100 := by
  obtain ⟨a, b, c⟩ := h.flour f hf
  exact ⟨a.1, a.2, b.1, b.2, c.1, c.2⟩
abbrev Cd : Type := (Nat → Int) × Int
def feas (s : sS) (lo hi : Int) (c : Cd) : Prop := 0 < c.2 ∧ (∀ f, f < 4 → 0 ≤ c.1 f ∧ c.1 f ≤ cpI s f * c.2) ∧ sumI c.1 4 = 100 * c.2 ∧ 100 * lo * c.2 ≤ sumI (fun f => c.1 f * stI s f) 4 ∧ sumI (fun f => c.1 f * stI s f) 4 ≤ 100 * hi * c.2
def keyC (s : sS) (c : Cd) (k : Nat) : Int := if k = 0 then sumI (fun f => c.1 f * ctI s f) 4 else c.1 (k - 1)
def ltC (s : sS) (c b : Cd) : Prop := ∃ k, k < 5 ∧ (∀ j, j < k → keyC s c j * b.2 = keyC s b j * c.2) ∧ keyC s c k * b.2 < keyC s b k * c.2
def eqC (s : sS) (c b : Cd) : Prop := ∀ k, k < 5 → keyC s c k * b.2 = keyC s b k * c.2
theorem crE {a b c ta tb tc : Int} (hb : 0 < tb) (h1 : a * tb = b * ta) (h2 : b * tc = c * tb) : a * tc = c * ta := by
  have e : tb * (a * tc) = tb * (c * ta) := by
    have e1 : tb * (a * tc) = (a * tb) * tc := by rw [Int.mul_comm a tb, Int.mul_assoc]
    have e2 : tb * (c * ta) = (c * tb) * ta := by rw [Int.mul_comm c tb, Int.mul_assoc]
    rw [e1, e2, h1, ← h2, Int.mul_assoc, Int.mul_assoc, Int.mul_comm ta tc]
  exact Int.eq_of_mul_eq_mul_left (by omega) e
theorem crL {a b c ta tb tc : Int} (ha : 0 < ta) (hb : 0 < tb) (hc : 0 < tc) (h1 : a * tb ≤ b * ta) (h2 : b * tc ≤ c * tb) (h3 : a * tb < b * ta ∨ b * tc < c * tb) : a * tc < c * ta := by
  have e1 : tb * (a * tc) = (a * tb) * tc := by rw [Int.mul_comm a tb, Int.mul_assoc]
  have e2 : tb * (c * ta) = (c * tb) * ta := by rw [Int.mul_comm c tb, Int.mul_assoc]
  have e3 : (b * ta) * tc = (b * tc) * ta := by rw [Int.mul_assoc, Int.mul_assoc, Int.mul_comm ta tc]
  have l : tb * (a * tc) < tb * (c * ta) := by
    rw [e1, e2]
    rcases h3 with h3 | h3
    · have g1 := Int.mul_lt_mul_of_pos_right h3 hc
      have g2 := Int.mul_le_mul_of_nonneg_right h2 (Int.le_of_lt ha)
      rw [e3] at g1
      exact Int.lt_of_lt_of_le g1 g2
    · have g1 := Int.mul_le_mul_of_nonneg_right h1 (Int.le_of_lt hc)
      have g2 := Int.mul_lt_mul_of_pos_right h3 ha
      rw [e3] at g1
      exact Int.lt_of_le_of_lt g1 g2
  exact Int.lt_of_mul_lt_mul_left l (Int.le_of_lt hb)
theorem ltC_trans {s : sS} {c b d : Cd} (hc : 0 < c.2) (hb : 0 < b.2) (hd : 0 < d.2) (h1 : ltC s c b) (h2 : ltC s b d) : ltC s c d := by
  obtain ⟨k1, l1, e1, g1⟩ := h1
  obtain ⟨k2, l2, e2, g2⟩ := h2
  rcases Nat.lt_trichotomy k1 k2 with h | h | h
  · exact ⟨k1, l1, fun j hj => crE hb (e1 j hj) (e2 j (by omega)), crL hc hb hd (Int.le_of_lt g1) (Int.le_of_eq (e2 k1 h)) (Or.inl g1)⟩
  · subst h
    exact ⟨k1, l1, fun j hj => crE hb (e1 j hj) (e2 j hj), crL hc hb hd (Int.le_of_lt g1) (Int.le_of_lt g2) (Or.inl g1)⟩
  · exact ⟨k2, l2, fun j hj => crE hb (e1 j (by omega)) (e2 j hj), crL hc hb hd (Int.le_of_eq (e1 k2 h)) (Int.le_of_lt g2) (Or.inr g2)⟩
theorem ltC_irr {s : sS} {c : Cd} (h : ltC s c c) : False := by
  obtain ⟨k, -, -, l⟩ := h
  exact Int.lt_irrefl _ l
theorem eqC_of {s : sS} {c b : Cd} (h1 : ¬ ltC s c b) (h2 : ¬ ltC s b c) : eqC s c b := by
  have main : ∀ n k, k < n → k < 5 → keyC s c k * b.2 = keyC s b k * c.2 := by
    intro n
    induction n with
    | zero => intro k hk; exact absurd hk (Nat.not_lt_zero k)
    | succ n ih =>
      intro k hk h5
      have ih2 : ∀ j, j < k → keyC s c j * b.2 = keyC s b j * c.2 := fun j hj => ih j (by omega) (by omega)
      rcases Int.lt_trichotomy (keyC s c k * b.2) (keyC s b k * c.2) with h | h | h
      · exact absurd ⟨k, h5, ih2, h⟩ h1
      · exact h
      · exact absurd ⟨k, h5, fun j hj => (ih2 j hj).symm, h⟩ h2
  exact fun k hk => main (k + 1) k (Nat.lt_succ_self k) hk
/-- the best of those that were tried -/
def Mn (s : sS) (lo hi : Int) (T : Cd → Prop) : Option Cd → Prop
  | none => ∀ c, T c → ¬ feas s lo hi c
  | some b => T b ∧ feas s lo hi b ∧ ∀ c, T c → feas s lo hi c → ¬ ltC s c b
theorem Mn_iff {s : sS} {lo hi : Int} {T T' : Cd → Prop} (h : ∀ c, T c ↔ T' c) : ∀ b, Mn s lo hi T b → Mn s lo hi T' b
  | none, hb => fun c hc => hb c ((h c).mpr hc)
  | some _, ⟨h1, h2, h3⟩ => ⟨(h _).mp h1, h2, fun c hc => h3 c ((h c).mpr hc)⟩
theorem Mn_skip {s : sS} {lo hi : Int} {T : Cd → Prop} {c : Cd} (hf : ¬ feas s lo hi c) : ∀ b, Mn s lo hi T b → Mn s lo hi (fun x => T x ∨ x = c) b
  | none, hb => fun x hx => by
    rcases hx with hx | hx
    · exact hb x hx
    · rw [hx]; exact hf
  | some _, ⟨h1, h2, h3⟩ => ⟨Or.inl h1, h2, fun x hx hfx => by
    rcases hx with hx | hx
    · exact h3 x hx hfx
    · rw [hx] at hfx; exact absurd hfx hf⟩
theorem Mn_first {s : sS} {lo hi : Int} {T : Cd → Prop} {c : Cd} (hf : feas s lo hi c) (h : Mn s lo hi T none) : Mn s lo hi (fun x => T x ∨ x = c) (some c) := ⟨Or.inr rfl, hf, fun x hx hfx => by
  rcases hx with hx | hx
  · exact absurd hfx (h x hx)
  · rw [hx]; exact ltC_irr⟩
theorem Mn_keep {s : sS} {lo hi : Int} {T : Cd → Prop} {c b : Cd} (hl : ¬ ltC s c b) (h : Mn s lo hi T (some b)) : Mn s lo hi (fun x => T x ∨ x = c) (some b) := ⟨Or.inl h.1, h.2.1, fun x hx hfx => by
  rcases hx with hx | hx
  · exact h.2.2 x hx hfx
  · rw [hx]; exact hl⟩
theorem Mn_new {s : sS} {lo hi : Int} {T : Cd → Prop} {c b : Cd} (hf : feas s lo hi c) (hl : ltC s c b) (h : Mn s lo hi T (some b)) : Mn s lo hi (fun x => T x ∨ x = c) (some c) := ⟨Or.inr rfl, hf, fun x hx hfx => by
  rcases hx with hx | hx
  · exact fun h9 => h.2.2 x hx hfx (ltC_trans hfx.1 hf.1 h.2.1.1 h9 hl)
  · rw [hx]; exact ltC_irr⟩
/-! the corners -/
def eS (s : sS) (S : Nat → Bool) (f : Nat) : Int := if f < 4 ∧ S f = true then cpI s f else 0
def oneC (s : sS) (S : Nat → Bool) (i : Nat) : Cd := (fun f => if f = i then 100 - sumI (eS s S) 4 else eS s S f, 1)
def twoC (s : sS) (S : Nat → Bool) (i j : Nat) (w : Int) : Cd := (fun f => if f = j then (100 - sumI (eS s S) 4) * stI s i - (100 * w - sumI (fun g => eS s S g * stI s g) 4) else if f = i then (100 * w - sumI (fun g => eS s S g * stI s g) 4) - (100 - sumI (eS s S) 4) * stI s j else eS s S f * (stI s i - stI s j), stI s i - stI s j)
def zerC (s : sS) (S : Nat → Bool) : Cd := (eS s S, 1)
theorem eS_congr {s : sS} {S S' : Nat → Bool} (h : ∀ f, f < 4 → S f = S' f) : eS s S = eS s S' := by
  funext f
  unfold eS
  by_cases g : f < 4
  · rw [h f g]
  · rw [if_neg (fun h9 => g h9.1), if_neg (fun h9 => g h9.1)]
theorem oneC_congr {s : sS} {S S' : Nat → Bool} (h : ∀ f, f < 4 → S f = S' f) (i : Nat) : oneC s S i = oneC s S' i := by
  unfold oneC
  rw [eS_congr h]
theorem twoC_congr {s : sS} {S S' : Nat → Bool} (h : ∀ f, f < 4 → S f = S' f) (i j : Nat) (w : Int) : twoC s S i j w = twoC s S' i j w := by
  unfold twoC
  rw [eS_congr h]
theorem zerC_congr {s : sS} {S S' : Nat → Bool} (h : ∀ f, f < 4 → S f = S' f) : zerC s S = zerC s S' := by
  unfold zerC
  rw [eS_congr h]
theorem eS_b {N : Nat} {s : sS} (h : Inv N s) (S : Nat → Bool) (f : Nat) : 0 ≤ eS s S f ∧ eS s S f ≤ 100 := by
  unfold eS
  split
  · next g =>
    have := fl_b h g.1
    omega
  · omega
theorem sumI_bd {f : Nat → Int} {B : Int} : ∀ n : Nat, (∀ k, k < n → 0 ≤ f k ∧ f k ≤ B) → 0 ≤ sumI f n ∧ sumI f n ≤ n * B
  | 0, _ => ⟨Int.le_refl 0, by show (0 : Int) ≤ ((0 : Nat) : Int) * B; omega⟩
  | n + 1, h => by
    have h1 := sumI_bd n (fun k hk => h k (by omega))
    have h2 := h n (by omega)
    show 0 ≤ sumI f n + f n ∧ sumI f n + f n ≤ ((n + 1 : Nat) : Int) * B
    have e : ((n + 1 : Nat) : Int) * B = (n : Int) * B + B := by
      rw [show ((n + 1 : Nat) : Int) = (n : Int) + 1 by omega, Int.add_mul, Int.one_mul]
    omega
theorem eS_sums {N : Nat} {s : sS} (h : Inv N s) (S : Nat → Bool) (n : Nat) (hn : n ≤ 4) : 0 ≤ sumI (eS s S) n ∧ sumI (eS s S) n ≤ 400 ∧ 0 ≤ sumI (fun g => eS s S g * stI s g) n ∧ sumI (fun g => eS s S g * stI s g) n ≤ 80000 := by
  have h1 := sumI_bd (f := eS s S) (B := 100) n (fun k _ => eS_b h S k)
  have h2 := sumI_bd (f := fun g => eS s S g * stI s g) (B := 20000) n (fun k hk => by
    have a := eS_b h S k
    have b := fl_b h (show k < 4 by omega)
    have := mulNN (A := 100) (B := 200) a.1 a.2 b.1 b.2.1
    omega)
  omega
def cb (c : Cd) : Prop := 0 < c.2 ∧ c.2 ≤ 200 ∧ (∀ f, f < 4 → -200000 ≤ c.1 f ∧ c.1 f ≤ 200000) ∧ sumI c.1 4 = 100 * c.2
theorem eS_out {s : sS} {S : Nat → Bool} {i : Nat} (h : S i = false) : eS s S i = 0 := if_neg (fun h9 => by rw [h] at h9; exact absurd h9.2 (by decide))
theorem oneC_cb {N : Nat} {s : sS} (h : Inv N s) {S : Nat → Bool} {i : Nat} (hi : i < 4) (hS : S i = false) : cb (oneC s S i) := by
  have hs := eS_sums h S 4 (Nat.le_refl 4)
  refine ⟨show (0 : Int) < 1 by decide, show (1 : Int) ≤ 200 by decide, fun f hf => ?_, ?_⟩
  · show -200000 ≤ (if f = i then 100 - sumI (eS s S) 4 else eS s S f) ∧ (if f = i then 100 - sumI (eS s S) 4 else eS s S f) ≤ 200000
    have := eS_b h S f
    split <;> omega
  · show sumI (fun f => if f = i then 100 - sumI (eS s S) 4 else eS s S f) 4 = 100 * 1
    rw [sumI_one (f := eS s S) 4 i hi (fun k _ hk => if_neg hk)]
    show sumI (eS s S) 4 + ((if i = i then 100 - sumI (eS s S) 4 else eS s S i) - eS s S i) = 100 * 1
    rw [if_pos rfl, eS_out hS]
    omega
theorem sumI_mul (f : Nat → Int) (c : Int) : ∀ n, sumI (fun k => f k * c) n = sumI f n * c
  | 0 => (Int.zero_mul c).symm
  | n + 1 => by
    show sumI (fun k => f k * c) n + f n * c = (sumI f n + f n) * c
    rw [sumI_mul f c n, Int.add_mul]
theorem twoC_cb {N : Nat} {s : sS} (h : Inv N s) {S : Nat → Bool} {i j : Nat} {w : Int} (hi : i < 4) (hj : j < 4) (hSi : S i = false) (hSj : S j = false) (hl : stI s j < stI s i) (hw : 0 ≤ w) (hw2 : w ≤ 200) : cb (twoC s S i j w) := by
  have hs := eS_sums h S 4 (Nat.le_refl 4)
  have bi := fl_b h hi
  have bj := fl_b h hj
  have hij : i ≠ j := fun e => by rw [e] at hl; exact absurd hl (Int.lt_irrefl _)
  have p1 := mulAbs (a := 100 - sumI (eS s S) 4) (b := stI s i) (A := 300) (B := 200) (by omega) (by omega) (by omega) (by omega)
  have p2 := mulAbs (a := 100 - sumI (eS s S) 4) (b := stI s j) (A := 300) (B := 200) (by omega) (by omega) (by omega) (by omega)
  refine ⟨by show 0 < stI s i - stI s j; omega, by show stI s i - stI s j ≤ 200; omega, fun f hf => ?_, ?_⟩
  · show -200000 ≤ (if f = j then _ else if f = i then _ else _) ∧ (if f = j then _ else if f = i then _ else _) ≤ 200000
    have := eS_b h S f
    have p3 := mulAbs (a := eS s S f) (b := stI s i - stI s j) (A := 100) (B := 200) (by omega) (by omega) (by omega) (by omega)
    split
    · omega
    · split <;> omega
  · show sumI (fun f => if f = j then (100 - sumI (eS s S) 4) * stI s i - (100 * w - sumI (fun g => eS s S g * stI s g) 4) else if f = i then (100 * w - sumI (fun g => eS s S g * stI s g) 4) - (100 - sumI (eS s S) 4) * stI s j else eS s S f * (stI s i - stI s j)) 4 = 100 * (stI s i - stI s j)
    rw [sumI_one (f := fun f => if f = i then (100 * w - sumI (fun g => eS s S g * stI s g) 4) - (100 - sumI (eS s S) 4) * stI s j else eS s S f * (stI s i - stI s j)) 4 j hj (fun k _ hk => if_neg hk)]
    rw [sumI_one (f := fun f => eS s S f * (stI s i - stI s j)) 4 i hi (fun k _ hk => if_neg hk), sumI_mul]
    simp only [if_true, if_neg hij, if_neg (fun h9 : j = i => hij h9.symm)]
    rw [eS_out hSi, eS_out hSj, Int.zero_mul, Int.sub_mul, Int.sub_mul] at *
    rw [Int.mul_sub]
    omega
/-- the corners that may be a mix -/
def TC (s : sS) (lo hi : Int) (c : Cd) : Prop := (∃ S i, i < 4 ∧ S i = false ∧ c = oneC s S i) ∨ ∃ S i j w, i < 4 ∧ j < 4 ∧ S i = false ∧ S j = false ∧ stI s j < stI s i ∧ (w = lo ∨ w = hi) ∧ c = twoC s S i j w
def TZ (s : sS) (lo hi : Int) (c : Cd) : Prop := TC s lo hi c ∨ ∃ S, c = zerC s S
/-- a corner with no free flour that is a mix is one with a free flour -/
theorem zer_in {s : sS} {lo hi : Int} {S : Nat → Bool} (hf : feas s lo hi (zerC s S)) : TC s lo hi (zerC s S) := by
  have hsum : sumI (eS s S) 4 = 100 * 1 := hf.2.2.1
  have hex : ∃ i, i < 4 ∧ S i = true := by
    by_cases h : ∃ i, i < 4 ∧ S i = true
    · exact h
    · exfalso
      have z : sumI (eS s S) 4 = 0 := sumI_zero 4 (fun k hk => if_neg (fun h9 => h ⟨k, h9⟩))
      omega
  obtain ⟨i, hi, hS⟩ := hex
  refine Or.inl ⟨fun f => if f = i then false else S f, i, hi, if_pos rfl, ?_⟩
  have e1 : ∀ f, f ≠ i → eS s (fun f => if f = i then false else S f) f = eS s S f := fun f hne => by
    unfold eS
    show (if f < 4 ∧ (if f = i then false else S f) = true then cpI s f else 0) = _
    rw [if_neg (show ¬ f = i from hne)]
  have e2 : eS s (fun f => if f = i then false else S f) i = 0 := eS_out (if_pos rfl)
  have e3 : sumI (eS s S) 4 = sumI (eS s (fun f => if f = i then false else S f)) 4 + (eS s S i - eS s (fun f => if f = i then false else S f) i) := sumI_one 4 i hi (fun k _ hk => (e1 k hk).symm)
  unfold zerC oneC
  congr 1
  funext f
  by_cases g : f = i
  · rw [if_pos g, g]; omega
  · rw [if_neg g]; exact (e1 f g).symm
theorem Mn_TZ {s : sS} {lo hi : Int} : ∀ b, Mn s lo hi (TZ s lo hi) b → Mn s lo hi (TC s lo hi) b
  | none, h => fun c hc => h c (Or.inl hc)
  | some b, ⟨h1, h2, h3⟩ => ⟨by
      rcases h1 with h1 | ⟨S, h1⟩
      · exact h1
      · rw [h1] at h2 ⊢; exact zer_in h2, h2, fun c hc => h3 c (Or.inl hc)⟩
/-- two bests of the same corners are the same numbers -/
theorem Mn_two {s : sS} {lo hi : Int} {T : Cd → Prop} {b c : Cd} (h1 : Mn s lo hi T (some b)) (h2 : Mn s lo hi T (some c)) : eqC s b c := eqC_of (h2.2.2 b h1.1 h1.2.1) (h1.2.2 c h2.1 h2.2.1)
/-! fractions in lowest terms -/
theorem gcd_step (x y : Nat) : Nat.gcd x y = Nat.gcd y (x % y) := by
  rw [Nat.gcd_comm x y, Nat.gcd_rec y x, Nat.gcd_comm]
theorem mod_half {x y k : Nat} (hr : ¬ x % y = 0) (hy : y < 2 ^ (k + 1)) (hy0 : 0 < y) : y % (x % y) < 2 ^ k := by
  have h1 : x % y < y := Nat.mod_lt x hy0
  have h2 : y % (x % y) < x % y := Nat.mod_lt y (by omega)
  have h3 : y % (x % y) ≤ y - x % y := by
    rw [Nat.mod_eq_sub_mod (by omega)]
    exact Nat.mod_le _ _
  rw [Nat.pow_succ] at hy
  omega
theorem frac_eq {a b c d : Nat} (hb : 0 < b) (hd : 0 < d) (h : a * d = c * b) : a / Nat.gcd b a = c / Nat.gcd d c ∧ b / Nat.gcd b a = d / Nat.gcd d c := by
  have hg : 0 < Nat.gcd b a := Nat.gcd_pos_of_pos_left a hb
  have hh : 0 < Nat.gcd d c := Nat.gcd_pos_of_pos_left c hd
  have e1 : Nat.gcd (b * d) (a * d) = Nat.gcd b a * d := Nat.gcd_mul_right b d a
  have e2 : Nat.gcd (d * b) (c * b) = Nat.gcd d c * b := Nat.gcd_mul_right d b c
  have e3 : Nat.gcd b a * d = Nat.gcd d c * b := by rw [← e1, ← e2, h, Nat.mul_comm b d]
  constructor
  · have e4 : a * Nat.gcd d c = c * Nat.gcd b a := by
      refine Nat.eq_of_mul_eq_mul_right hb ?_
      calc a * Nat.gcd d c * b = a * (Nat.gcd d c * b) := Nat.mul_assoc _ _ _
        _ = a * (Nat.gcd b a * d) := by rw [e3]
        _ = a * d * Nat.gcd b a := by rw [Nat.mul_comm (Nat.gcd b a) d, Nat.mul_assoc]
        _ = c * b * Nat.gcd b a := by rw [h]
        _ = c * Nat.gcd b a * b := by rw [Nat.mul_assoc, Nat.mul_comm b, Nat.mul_assoc]
    rw [← Nat.mul_div_mul_right a (Nat.gcd b a) hh, ← Nat.mul_div_mul_right c (Nat.gcd d c) hg, e4, Nat.mul_comm (Nat.gcd d c) (Nat.gcd b a)]
  · rw [← Nat.mul_div_mul_right b (Nat.gcd b a) hh, ← Nat.mul_div_mul_right d (Nat.gcd d c) hg, Nat.mul_comm b, ← e3, Nat.mul_comm d, Nat.mul_comm (Nat.gcd d c) (Nat.gcd b a)]
