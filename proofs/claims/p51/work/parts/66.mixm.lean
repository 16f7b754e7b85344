/-! ===== THE CHEAPEST MIX: the model, and both ===== -/
def fR (σ σ' : xSt) : Prop := (∀ q, 1 ≤ q → q ≤ 3 → σ' q = σ q) ∧ ∀ k, k < 14 → σ' 0 k = σ 0 k
theorem fR.refl (σ : xSt) : fR σ σ := ⟨fun _ _ _ => rfl, fun _ _ => rfl⟩
theorem fR.trans {a b c : xSt} (h : fR a b) (h2 : fR b c) : fR a c := ⟨fun q h1 h3 => (h2.1 q h1 h3).trans (h.1 q h1 h3), fun k hk => (h2.2 k hk).trans (h.2 k hk)⟩
theorem fR.xu {σ σ' : xSt} (h : fR σ σ') (q k : Nat) (v : Int32) (hq : 4 ≤ q ∨ (q = 0 ∧ 14 ≤ k)) : fR σ (xu σ' q k v) := by
  refine ⟨fun q' h1 h3 => (xu_ne _ _ _ (by omega)).trans (h.1 q' h1 h3), fun k' hk => ?_⟩
  by_cases e : q = 0
  · rw [e, xu_at, upd_ne _ _ (by omega)]; exact h.2 k' hk
  · rw [xu_ne _ _ _ (fun h9 => e h9.symm)]; exact h.2 k' hk
theorem RM.scr2 {σ σ' : xSt} {a : xA} (h : RM σ a) (f : fR σ σ') : RM σ' a := h.frame (f.1 1 (by decide) (by decide)) (f.1 2 (by decide) (by decide)) (f.1 3 (by decide) (by decide)) (f.2 3 (by decide)) (f.2 4 (by decide)) (f.2 6 (by decide))
/-! how a flour is in a corner -/
def dg (k f : Nat) : Nat := k / 3 ^ f % 3
def mS (k f : Nat) : Bool := decide (dg k f = 1)
theorem dg_lt (k f : Nat) : dg k f < 3 := Nat.mod_lt _ (by decide)
/-! sums -/
def mtI (s : sS) (a : Int32) (f : Nat) : Int := if a = -1 then 1 else (s (a.toNatClampNeg + f)).toInt
def cbw (c : Cd) : Prop := 0 < c.2 ∧ c.2 ≤ 200 ∧ ∀ f, f < 4 → -200000 ≤ c.1 f ∧ c.1 f ≤ 200000
def mcand (σ : xSt) (c : Cd) : Prop := (σ 0 14).toInt = c.2 ∧ ∀ f, f < 4 → (σ 9 f).toInt = c.1 f
def mBst (σ : xSt) : Option Cd → Prop
  | none => σ 0 15 = 0
  | some b => cbw b ∧ (σ 0 15).toInt = b.2 ∧ ∀ f, f < 4 → (σ 10 f).toInt = b.1 f
def MB (s : sS) (lo hi : Int) (σ : xSt) (T : Cd → Prop) : Prop := ∃ b, mBst σ b ∧ Mn s lo hi T b
theorem MB.frame {s : sS} {lo hi : Int} {σ σ' : xSt} {T : Cd → Prop} (h : MB s lo hi σ T) (h1 : σ' 10 = σ 10) (h2 : σ' 0 15 = σ 0 15) : MB s lo hi σ' T := by
  obtain ⟨b, g1, g2⟩ := h
  refine ⟨b, ?_, g2⟩
  cases b with
  | none => show σ' 0 15 = 0; rw [h2]; exact g1
  | some b => show cbw b ∧ (σ' 0 15).toInt = b.2 ∧ ∀ f, f < 4 → (σ' 10 f).toInt = b.1 f; rw [h1, h2]; exact g1
theorem l64 {a b c d : Int32} (h1 : -1000000000000000 ≤ a.toInt * b.toInt ∧ a.toInt * b.toInt ≤ 1000000000000000) (h2 : -1000000000000000 ≤ c.toInt * d.toInt ∧ c.toInt * d.toInt ≤ 1000000000000000) : (a.toInt64 * b.toInt64 - c.toInt64 * d.toInt64).toInt = a.toInt * b.toInt - c.toInt * d.toInt := by
  rw [Int64.toInt_sub, i64m, i64m]
  exact Int.bmod_eq_of_le (by omega) (by omega)
theorem sumI_abs {f : Nat → Int} {B : Int} : ∀ n : Nat, (∀ k, k < n → -B ≤ f k ∧ f k ≤ B) → -(n * B) ≤ sumI f n ∧ sumI f n ≤ n * B
  | 0, _ => by
    show -(((0 : Nat) : Int) * B) ≤ 0 ∧ (0 : Int) ≤ ((0 : Nat) : Int) * B
    omega
  | n + 1, h => by
    have h1 := sumI_abs n (fun k hk => h k (by omega))
    have h2 := h n (by omega)
    show -(((n + 1 : Nat) : Int) * B) ≤ sumI f n + f n ∧ sumI f n + f n ≤ ((n + 1 : Nat) : Int) * B
    have e : ((n + 1 : Nat) : Int) * B = (n : Int) * B + B := by
      rw [show ((n + 1 : Nat) : Int) = (n : Int) + 1 by omega, Int.add_mul, Int.one_mul]
    omega
theorem key0_b {N : Nat} {s : sS} (hI : Inv N s) {c : Cd} (hc : cbw c) : -800000000 ≤ keyC s c 0 ∧ keyC s c 0 ≤ 800000000 := by
  have h := sumI_abs (f := fun f => c.1 f * ctI s f) (B := 199800000) 4 (fun k hk => by
    have a := hc.2.2 k hk
    have b := fl_b hI hk
    have := mulAbs (a := c.1 k) (b := ctI s k) (A := 200000) (B := 999) (by omega) (by omega) (by omega) (by omega)
    omega)
  show -800000000 ≤ sumI (fun f => c.1 f * ctI s f) 4 ∧ sumI (fun f => c.1 f * ctI s f) 4 ≤ 800000000
  omega
theorem oneC_cbw {N : Nat} {s : sS} (h : Inv N s) (S : Nat → Bool) (i : Nat) : cbw (oneC s S i) := by
  have hs := eS_sums h S 4 (Nat.le_refl 4)
  refine ⟨show (0 : Int) < 1 by decide, show (1 : Int) ≤ 200 by decide, fun f hf => ?_⟩
  show -200000 ≤ (if f = i then 100 - sumI (eS s S) 4 else eS s S f) ∧ (if f = i then 100 - sumI (eS s S) 4 else eS s S f) ≤ 200000
  have := eS_b h S f
  split <;> omega
theorem twoC_cbw {N : Nat} {s : sS} (h : Inv N s) (S : Nat → Bool) {i j : Nat} {w : Int} (hi : i < 4) (hj : j < 4) (hl : stI s j < stI s i) (hw : 0 ≤ w) (hw2 : w ≤ 200) : cbw (twoC s S i j w) := by
  have hs := eS_sums h S 4 (Nat.le_refl 4)
  have bi := fl_b h hi
  have bj := fl_b h hj
  have p1 := mulAbs (a := 100 - sumI (eS s S) 4) (b := stI s i) (A := 300) (B := 200) (by omega) (by omega) (by omega) (by omega)
  have p2 := mulAbs (a := 100 - sumI (eS s S) 4) (b := stI s j) (A := 300) (B := 200) (by omega) (by omega) (by omega) (by omega)
  refine ⟨by show 0 < stI s i - stI s j; omega, by show stI s i - stI s j ≤ 200; omega, fun f hf => ?_⟩
  show -200000 ≤ (if f = j then (100 - sumI (eS s S) 4) * stI s i - (100 * w - sumI (fun g => eS s S g * stI s g) 4) else if f = i then (100 * w - sumI (fun g => eS s S g * stI s g) 4) - (100 - sumI (eS s S) 4) * stI s j else eS s S f * (stI s i - stI s j)) ∧ (if f = j then (100 - sumI (eS s S) 4) * stI s i - (100 * w - sumI (fun g => eS s S g * stI s g) 4) else if f = i then (100 * w - sumI (fun g => eS s S g * stI s g) 4) - (100 - sumI (eS s S) 4) * stI s j else eS s S f * (stI s i - stI s j)) ≤ 200000
  have := eS_b h S f
  have p3 := mulAbs (a := eS s S f) (b := stI s i - stI s j) (A := 100) (B := 200) (by omega) (by omega) (by omega) (by omega)
  split
  · omega
  · split <;> omega
theorem zerC_cbw {N : Nat} {s : sS} (h : Inv N s) (S : Nat → Bool) : cbw (zerC s S) := ⟨show (0 : Int) < 1 by decide, show (1 : Int) ≤ 200 by decide, fun f _ => by
  have := eS_b h S f
  show -200000 ≤ eS s S f ∧ eS s S f ≤ 200000
  omega⟩