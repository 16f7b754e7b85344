/-! isMixed: the mixes by tenths -/
def FM (s : sS) (S C P : Nat → Nat) : Prop := ∀ f, f < 4 → stI s f = (S f : Int) ∧ ctI s f = (C f : Int) ∧ cpI s f = (P f : Int) ∧ S f ≤ 200 ∧ C f ≤ 99 ∧ P f ≤ 100
def grd (a b c e : Nat) : Nat → Int := fun f => if f = 0 then 10 * (a : Int) else if f = 1 then 10 * (b : Int) else if f = 2 then 10 * (c : Int) else 10 * (e : Int)
theorem grd_W (w : Nat → Int) (a b c e : Nat) : W4 w (grd a b c e) = 10 * ((a : Int) * w 0 + (b : Int) * w 1 + (c : Int) * w 2 + (e : Int) * w 3) := by
  rw [W4_e]
  show 10 * (a : Int) * w 0 + 10 * (b : Int) * w 1 + 10 * (c : Int) * w 2 + 10 * (e : Int) * w 3 = _
  rw [Int.mul_assoc, Int.mul_assoc, Int.mul_assoc, Int.mul_assoc]
  omega
def sN4 (S : Nat → Nat) (a b c e : Nat) : Nat := a * S 0 + b * S 1 + c * S 2 + e * S 3
theorem sN4_b {S : Nat → Nat} {B : Nat} (h : ∀ f, f < 4 → S f ≤ B) {a b c e : Nat} (hs : a + b + c + e = 10) : sN4 S a b c e ≤ 10 * B := by
  have h0 := Nat.mul_le_mul (Nat.le_refl a) (h 0 (by omega))
  have h1 := Nat.mul_le_mul (Nat.le_refl b) (h 1 (by omega))
  have h2 := Nat.mul_le_mul (Nat.le_refl c) (h 2 (by omega))
  have h3 := Nat.mul_le_mul (Nat.le_refl e) (h 3 (by omega))
  have e1 : a * B + b * B + c * B + e * B = 10 * B := by
    rw [← Nat.add_mul, ← Nat.add_mul, ← Nat.add_mul, hs]
  unfold sN4
  omega
theorem grd_feas {s : sS} {S C P : Nat → Nat} (hF : FM s S C P) {lo hi a b c e : Nat} (hs : a + b + c + e = 10) (h0 : 10 * a ≤ P 0) (h1 : 10 * b ≤ P 1) (h2 : 10 * c ≤ P 2) (h3 : 10 * e ≤ P 3) (hl : 10 * lo ≤ sN4 S a b c e) (hh : sN4 S a b c e ≤ 10 * hi) : feas s lo hi (grd a b c e, 1) := by
  have f0 := hF 0 (by omega)
  have f1 := hF 1 (by omega)
  have f2 := hF 2 (by omega)
  have f3 := hF 3 (by omega)
  have ew : sumI (fun f => grd a b c e f * stI s f) 4 = 10 * ((sN4 S a b c e : Nat) : Int) := by
    have := grd_W (stI s) a b c e
    rw [f0.1, f1.1, f2.1, f3.1] at this
    have e2 : ((sN4 S a b c e : Nat) : Int) = (a : Int) * (S 0 : Int) + (b : Int) * (S 1 : Int) + (c : Int) * (S 2 : Int) + (e : Int) * (S 3 : Int) := by
      unfold sN4
      omega
    rw [e2]
    exact this
  refine ⟨by show (0 : Int) < 1; omega, fun f hf => ?_, ?_, ?_, ?_⟩
  · show 0 ≤ grd a b c e f ∧ grd a b c e f ≤ cpI s f * 1
    rcases (show f = 0 ∨ f = 1 ∨ f = 2 ∨ f = 3 by omega) with g | g | g | g <;> subst g
    · show 0 ≤ 10 * (a : Int) ∧ 10 * (a : Int) ≤ cpI s 0 * 1
      omega
    · show 0 ≤ 10 * (b : Int) ∧ 10 * (b : Int) ≤ cpI s 1 * 1
      omega
    · show 0 ≤ 10 * (c : Int) ∧ 10 * (c : Int) ≤ cpI s 2 * 1
      omega
    · show 0 ≤ 10 * (e : Int) ∧ 10 * (e : Int) ≤ cpI s 3 * 1
      omega
  · show 0 + 10 * (a : Int) + 10 * (b : Int) + 10 * (c : Int) + 10 * (e : Int) = 100 * 1
    omega
  · show 100 * (lo : Int) * 1 ≤ sumI (fun f => grd a b c e f * stI s f) 4
    rw [ew]
    omega
  · show sumI (fun f => grd a b c e f * stI s f) 4 ≤ 100 * (hi : Int) * 1
    rw [ew]
    omega
/-- what the law keeps of the flours -/
def FR (S : Nat → Nat) (rd : Nat → Int32) : Prop := ∀ f, f < 4 → rd f = nI (S f)
theorem rest10 {a b c : Nat} (h : a + b + c ≤ 10) : ((10 - nI a) - nI b) - nI c = nI (10 - a - b - c) := by
  have e10 : (10 : Int32) = nI 10 := rfl
  rw [e10, nI_subeq (by omega), nI_subeq (by omega), nI_subeq (by omega)]
theorem P_none26 {s : sS} {S C P : Nat → Nat} {f1 f2 : Nat → Int32} (hF : FM s S C P) (h1 : FR S f1) (h2 : FR P f2) {lo hi : Nat} (hlo : lo ≤ 200) (hhi : hi ≤ 200) (hno : ∀ c, ¬ feas s lo hi c) (σ : xSt) (k3 : Int32 → Int32 → Int32 → xSt → Option (Int32 × xSt)) (k13 : Int32 → Int32 → Int32 → Int32 → xSt → Option (Int32 × xSt)) {a b : Nat} (hab : a + b ≤ 10) : ∀ (d c n : Nat), a + b + c + d = 11 → d < n → fL_isNoneX_c26 f1 f2 k3 k13 n (nI lo) (nI hi) (nI a) (nI b) (nI c) σ = k13 (nI lo) (nI hi) (nI a) (nI (b + 1)) σ := by
  intro d
  induction d with
  | zero =>
    intro c n hc hn
    match n, hn with
    | n + 1, _ =>
      rw [fL_isNoneX_c26_s, nI_add, nI_add, if_pos (show (10 : Int32) < nI (a + b + c) from nI_lt (a := 10) (by omega) (by omega)), xl_t, ← nI_succ]
  | succ d ih =>
    intro c n hc hn
    match n, hn with
    | n + 1, hn =>
      have ih := ih (c + 1) n (by omega) (by omega)
      have e10 : (10 : Int32) = nI 10 := rfl
      have sb := sN4_b (S := S) (B := 200) (fun f hf => (hF f hf).2.2.2.1) (show a + b + c + (10 - a - b - c) = 10 by omega)
      have p0 := (hF 0 (by omega)).2.2.2.2.2
      have p1 := (hF 1 (by omega)).2.2.2.2.2
      have p2 := (hF 2 (by omega)).2.2.2.2.2
      have p3 := (hF 3 (by omega)).2.2.2.2.2
      have ev : nI a * nI (S 0) + nI b * nI (S 1) + nI c * nI (S 2) + nI (10 - a - b - c) * nI (S 3) = nI (sN4 S a b c (10 - a - b - c)) := by
        rw [nI_mul, nI_mul, nI_mul, nI_mul, nI_add, nI_add, nI_add]
        rfl
      have r : ∀ (f : Nat → Int32) (X : Nat → Nat), FR X f → ∀ {β : Type} (K : Int32 → Option β), xrs f 4 0 K = K (nI (X 0)) ∧ xrs f 4 1 K = K (nI (X 1)) ∧ xrs f 4 2 K = K (nI (X 2)) ∧ xrs f 4 3 K = K (nI (X 3)) := fun f X hX _ K => by
        have q0 : xrs f 4 (nI 0) K = K (f 0) := xrs_n (by omega) (by decide)
        have q1 : xrs f 4 (nI 1) K = K (f 1) := xrs_n (by omega) (by decide)
        have q2 : xrs f 4 (nI 2) K = K (f 2) := xrs_n (by omega) (by decide)
        have q3 : xrs f 4 (nI 3) K = K (f 3) := xrs_n (by omega) (by decide)
        rw [hX 0 (by omega)] at q0
        rw [hX 1 (by omega)] at q1
        rw [hX 2 (by omega)] at q2
        rw [hX 3 (by omega)] at q3
        exact ⟨q0, q1, q2, q3⟩
      rw [fL_isNoneX_c26_s, nI_add, nI_add, if_neg (show ¬ (10 : Int32) < nI (a + b + c) from nI_nlt (a := 10) (by omega) (by omega)), xl_t, rest10 (by omega), (r f1 S h1 _).1, (r f1 S h1 _).2.1, (r f1 S h1 _).2.2.1, (r f1 S h1 _).2.2.2, xl_t, ev, (r f2 P h2 _).1]
      by_cases g0 : P 0 < 10 * a
      · rw [if_pos (show nI (P 0) < 10 * nI a by rw [e10, nI_mul]; exact nI_lt g0 (by omega)), xl_t, ← nI_succ]
        exact ih
      rw [if_neg (show ¬ nI (P 0) < 10 * nI a by rw [e10, nI_mul]; exact nI_nlt (by omega) (by omega)), (r f2 P h2 _).2.1]
      by_cases g1 : P 1 < 10 * b
      · rw [if_pos (show nI (P 1) < 10 * nI b by rw [e10, nI_mul]; exact nI_lt g1 (by omega)), xl_t, ← nI_succ]
        exact ih
      rw [if_neg (show ¬ nI (P 1) < 10 * nI b by rw [e10, nI_mul]; exact nI_nlt (by omega) (by omega)), (r f2 P h2 _).2.2.1]
      by_cases g2 : P 2 < 10 * c
      · rw [if_pos (show nI (P 2) < 10 * nI c by rw [e10, nI_mul]; exact nI_lt g2 (by omega)), xl_t, ← nI_succ]
        exact ih
      rw [if_neg (show ¬ nI (P 2) < 10 * nI c by rw [e10, nI_mul]; exact nI_nlt (by omega) (by omega)), (r f2 P h2 _).2.2.2]
      by_cases g3 : P 3 < 10 * (10 - a - b - c)
      · rw [if_pos (show nI (P 3) < 10 * nI (10 - a - b - c) by rw [e10, nI_mul]; exact nI_lt g3 (by omega)), xl_t, ← nI_succ]
        exact ih
      rw [if_neg (show ¬ nI (P 3) < 10 * nI (10 - a - b - c) by rw [e10, nI_mul]; exact nI_nlt (by omega) (by omega))]
      by_cases g4 : sN4 S a b c (10 - a - b - c) < 10 * lo
      · rw [if_pos (show nI (sN4 S a b c (10 - a - b - c)) < 10 * nI lo by rw [e10, nI_mul]; exact nI_lt g4 (by omega)), xl_t, ← nI_succ]
        exact ih
      rw [if_neg (show ¬ nI (sN4 S a b c (10 - a - b - c)) < 10 * nI lo by rw [e10, nI_mul]; exact nI_nlt (by omega) (by omega))]
      by_cases g5 : 10 * hi < sN4 S a b c (10 - a - b - c)
      · rw [if_pos (show 10 * nI hi < nI (sN4 S a b c (10 - a - b - c)) by rw [e10, nI_mul]; exact nI_lt g5 (by omega)), xl_t, ← nI_succ]
        exact ih
      exact absurd (grd_feas hF (lo := lo) (hi := hi) (show a + b + c + (10 - a - b - c) = 10 by omega) (by omega) (by omega) (by omega) (by omega) (by omega) (by omega)) (hno _)
theorem P_none {s : sS} {S C P : Nat → Nat} {f1 f2 : Nat → Int32} (hF : FM s S C P) (h1 : FR S f1) (h2 : FR P f2) {lo hi : Nat} (hlo : lo ≤ 200) (hhi : hi ≤ 200) (hno : ∀ c, ¬ feas s lo hi c) (σ : xSt) : fL_isNoneX f1 f2 (nI lo) (nI hi) σ = some (1, σ) := by
  have l13 : ∀ (k3 : Int32 → Int32 → Int32 → xSt → Option (Int32 × xSt)) (a : Nat), a ≤ 10 → ∀ (d b n : Nat), a + b + d = 11 → d < n → fL_isNoneX_c13 f1 f2 k3 n (nI lo) (nI hi) (nI a) (nI b) σ = k3 (nI lo) (nI hi) (nI (a + 1)) σ := by
    intro k3 a ha d
    induction d with
    | zero =>
      intro b n hb hn
      match n, hn with
      | n + 1, _ =>
        rw [fL_isNoneX_c13_s, nI_add, if_pos (show (10 : Int32) < nI (a + b) from nI_lt (a := 10) (by omega) (by omega)), xl_t, ← nI_succ]
    | succ d ih =>
      intro b n hb hn
      match n, hn with
      | n + 1, hn =>
        rw [fL_isNoneX_c13_s, nI_add, if_neg (show ¬ (10 : Int32) < nI (a + b) from nI_nlt (a := 10) (by omega) (by omega))]
        have := P_none26 hF h1 h2 hlo hhi hno σ k3 (fL_isNoneX_c13 f1 f2 k3 n) (a := a) (b := b) (by omega) (11 - a - b) 0 xFU (by omega) (by have h9 : xFU = 8192 := rfl; omega)
        exact this.trans (ih (b + 1) n (by omega) (by omega))
  have l3 : ∀ (d a n : Nat), a + d = 11 → d < n → fL_isNoneX_c3 f1 f2 n (nI lo) (nI hi) (nI a) σ = some (1, σ) := by
    intro d
    induction d with
    | zero =>
      intro a n ha hn
      match n, hn with
      | n + 1, _ =>
        rw [fL_isNoneX_c3_s, if_pos (show (10 : Int32) < nI a from nI_lt (a := 10) (by omega) (by omega))]
    | succ d ih =>
      intro a n ha hn
      match n, hn with
      | n + 1, hn =>
        rw [fL_isNoneX_c3_s, if_neg (show ¬ (10 : Int32) < nI a from nI_nlt (a := 10) (by omega) (by omega))]
        have := l13 (fL_isNoneX_c3 f1 f2 n) a (by omega) (11 - a) 0 xFU (by omega) (by have h9 : xFU = 8192 := rfl; omega)
        exact this.trans (ih (a + 1) n (by omega) (by omega))
  exact l3 11 0 xFU (by omega) (by have h9 : xFU = 8192 := rfl; omega)
