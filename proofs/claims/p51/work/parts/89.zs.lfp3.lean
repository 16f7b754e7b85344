/-! doubles: what the instructions come to -/
def HV (x : UInt64) (z : Int) : Prop := ∃ s c q, FP.Core.decode FP.Core.b64 x.toNat = .fin s c q ∧ -1074 ≤ q ∧ q ≤ 971 ∧ z = FP.Core.signed s (c * u2 q)
theorem sg_mul (s : Bool) (n u : Nat) : FP.Core.signed s n * (u : Int) = FP.Core.signed s (n * u) := by
  cases s
  · show (n : Int) * (u : Int) = ((n * u : Nat) : Int)
    rw [Int.natCast_mul]
  · show -(n : Int) * (u : Int) = -((n * u : Nat) : Int)
    rw [Int.natCast_mul, Int.neg_mul]
theorem HV_fin {s : Bool} {c : Nat} {q : Int} (hc : c < 2 ^ 53) (h1 : -1074 ≤ q) (h2 : q ≤ 971) (hf : q = -1074 ∨ 2 ^ 52 ≤ c) : HV (UInt64.ofNat (FP.Core.encode FP.Core.b64 (.fin s c q))) (FP.Core.signed s (c * u2 q)) := ⟨s, c, q, fp_round hc h1 h2 hf, h1, h2, rfl⟩
theorem HV_round {s : Bool} {num den : Nat} {e : Int} (hd : 0 < den) (he : -2900 ≤ e) (hb : num * u2 e < den * u2 10) : ∃ m : Nat, HV (UInt64.ofNat (FP.Core.encode FP.Core.b64 (FP.Core.roundRatio FP.Core.b64 s num den e))) (FP.Core.signed s m) ∧ m * den ≤ num * u2 e + den * UB ∧ num * u2 e ≤ m * den + den * UB ∧ (num = 0 → m = 0) := by
  by_cases h0 : num = 0
  · have qm : FP.Core.b64.qmin = -1074 := by decide
    have e1 : FP.Core.roundRatio FP.Core.b64 s num den e = .fin s 0 (-1074) := by
      unfold FP.Core.roundRatio
      rw [if_pos h0, qm]
    have h := HV_fin (s := s) (c := 0) (q := -1074) (by omega) (by omega) (by omega) (Or.inl rfl)
    rw [Nat.zero_mul] at h
    rw [e1, h0]
    exact ⟨0, h, by omega, by omega, fun _ => rfl⟩
  · have e0 := rr_err (q0 := max (-1074) (FP.Core.leading num den + e - 52)) (by omega) hd he hb rfl
    obtain ⟨c, q, q0, r1, r2, r3, r4, r5, r6, r7⟩ := rr_ok (s := s) (e := e) (num := num) (by omega) hd (by omega)
    have e1 := rr_err (q0 := q0) (by omega) hd he hb r6
    rw [← r7] at e1
    rw [r1]
    exact ⟨c * u2 q, HV_fin r2 r3 r4 r5, e1.2.1, e1.2.2, fun h9 => absurd h9 h0⟩
theorem HV_int {s : Bool} {num : Nat} (hb : num < 2 ^ 53) : HV (UInt64.ofNat (FP.Core.encode FP.Core.b64 (FP.Core.roundRatio FP.Core.b64 s num 1 0))) (FP.Core.signed s (num * u2 0)) := by
  by_cases h0 : num = 0
  · have qm : FP.Core.b64.qmin = -1074 := by decide
    have e1 : FP.Core.roundRatio FP.Core.b64 s num 1 0 = .fin s 0 (-1074) := by
      unfold FP.Core.roundRatio
      rw [if_pos h0, qm]
    have h := HV_fin (s := s) (c := 0) (q := -1074) (by omega) (by omega) (by omega) (Or.inl rfl)
    rw [Nat.zero_mul] at h
    rw [e1, h0, Nat.zero_mul]
    exact h
  · have e0 := rr_int (num := num) (q0 := max (-1074) (FP.Core.leading num 1 + 0 - 52)) (by omega) hb rfl
    obtain ⟨c, q, q0, r1, r2, r3, r4, r5, r6, r7⟩ := rr_ok (s := s) (e := 0) (num := num) (den := 1) (by omega) (by omega) (by omega)
    have e1 := rr_int (num := num) (q0 := q0) (by omega) hb r6
    rw [← r7] at e1
    rw [r1, ← e1.2]
    exact HV_fin r2 r3 r4 r5
theorem sg_int (i : Int) (u : Nat) : FP.Core.signed (decide (i < 0)) (i.natAbs * u) = i * (u : Int) := by
  rw [← sg_mul]
  congr 1
  unfold FP.Core.signed
  by_cases c : i < 0
  · rw [decide_eq_true c, if_pos rfl]
    omega
  · rw [decide_eq_false c, if_neg (by decide)]
    omega
theorem HV_i2d (a : Int32) : HV (FP.i2d a) (a.toInt * (u2 0 : Int)) := by
  have h1 := a.toInt_lt
  have h2 := a.le_toInt
  rw [← sg_int]
  exact HV_int (s := decide (a.toInt < 0)) (num := a.toInt.natAbs) (by omega)
theorem HV_l2d {a : Int64} (h : -1000000000000 ≤ a.toInt ∧ a.toInt ≤ 1000000000000) : HV (FP.l2d a) (a.toInt * (u2 0 : Int)) := by
  rw [← sg_int]
  exact HV_int (s := decide (a.toInt < 0)) (num := a.toInt.natAbs) (by omega)
/-- an exact datum, rounded -/
theorem HV_rd {v e : Int} {S : Bool} (hS : v ≠ 0 → S = decide (v < 0)) (he : -2900 ≤ e) (h1 : -(u2 10 : Int) < v * (u2 e : Int)) (h2 : v * (u2 e : Int) < (u2 10 : Int)) : ∃ z, HV (UInt64.ofNat (FP.Core.encode FP.Core.b64 (FP.Core.round FP.Core.b64 (.fin S v.natAbs e)))) z ∧ z ≤ v * (u2 e : Int) + (UB : Int) ∧ v * (u2 e : Int) ≤ z + (UB : Int) := by
  have rd : FP.Core.round FP.Core.b64 (.fin S v.natAbs e) = FP.Core.roundRatio FP.Core.b64 S v.natAbs 1 e := rfl
  rw [rd]
  have ea := sg_int v (u2 e)
  have hb : v.natAbs * u2 e < 1 * u2 10 := by
    unfold FP.Core.signed at ea
    by_cases c : v < 0
    · rw [decide_eq_true c, if_pos rfl] at ea
      omega
    · rw [decide_eq_false c, if_neg (by decide)] at ea
      omega
  obtain ⟨m, m1, m2, m3, _⟩ := HV_round (s := S) (num := v.natAbs) (den := 1) (e := e) (by omega) he hb
  refine ⟨_, m1, ?_⟩
  by_cases z : v = 0
  · rw [z, Int.zero_mul]
    rw [z] at m2
    have e0 : (0 : Int).natAbs = 0 := rfl
    rw [e0, Nat.zero_mul] at m2
    unfold FP.Core.signed
    split <;> omega
  · rw [hS z]
    unfold FP.Core.signed at ea ⊢
    by_cases c : v < 0
    · rw [decide_eq_true c, if_pos rfl] at ea ⊢
      omega
    · rw [decide_eq_false c, if_neg (by decide)] at ea ⊢
      omega
theorem inU {c : Nat} {q e : Int} (s : Bool) (h : e ≤ q) (he : -4000 ≤ e) : FP.Core.signed s (FP.Core.inUnits c q e) * (u2 e : Int) = FP.Core.signed s (c * u2 q) := by
  rw [sg_mul]
  unfold FP.Core.inUnits
  have h2 := u2_add (q := e) (q - e).toNat he
  rw [show e + (((q - e).toNat : Nat) : Int) = q by omega] at h2
  rw [h2, Nat.mul_assoc]
theorem HV_sum {s t : Bool} {c d : Nat} {q r : Int} (h1 : -1074 ≤ q) (h2 : -1074 ≤ r) {w : Int} (hw : w = FP.Core.signed s (c * u2 q) + FP.Core.signed t (d * u2 r)) (h3 : -(u2 10 : Int) < w) (h4 : w < (u2 10 : Int)) : ∃ z, HV (UInt64.ofNat (FP.Core.encode FP.Core.b64 (FP.Core.round FP.Core.b64 (FP.Core.exactSum (.fin s c q) (.fin t d r))))) z ∧ z ≤ w + (UB : Int) ∧ w ≤ z + (UB : Int) := by
  have es : FP.Core.exactSum (.fin s c q) (.fin t d r) = .fin (FP.Core.sumSign s t (FP.Core.sumUnits s c q t d r (min q r))) (FP.Core.sumUnits s c q t d r (min q r)).natAbs (min q r) := rfl
  have ev : FP.Core.sumUnits s c q t d r (min q r) * (u2 (min q r) : Int) = w := by
    unfold FP.Core.sumUnits
    rw [Int.add_mul, inU s (by omega) (by omega), inU t (by omega) (by omega), hw]
  rw [es]
  generalize FP.Core.sumUnits s c q t d r (min q r) = v at *
  have := HV_rd (v := v) (e := min q r) (S := FP.Core.sumSign s t v) (fun z => by
    unfold FP.Core.sumSign
    rw [if_neg z]) (by omega) (by rw [ev]; exact h3) (by rw [ev]; exact h4)
  rw [ev] at this
  exact this
theorem HV_add {x y : UInt64} {z1 z2 : Int} (hx : HV x z1) (hy : HV y z2) (h3 : -(u2 10 : Int) < z1 + z2) (h4 : z1 + z2 < (u2 10 : Int)) : ∃ z, HV (FP.dadd x y) z ∧ z ≤ z1 + z2 + (UB : Int) ∧ z1 + z2 ≤ z + (UB : Int) := by
  obtain ⟨s, c, q, x1, x2, x3, x4⟩ := hx
  obtain ⟨t, d, r, y1, y2, y3, y4⟩ := hy
  have := HV_sum (s := s) (t := t) (c := c) (d := d) x2 y2 (w := z1 + z2) (by rw [x4, y4]) h3 h4
  show ∃ z, HV (UInt64.ofNat (FP.Core.encode FP.Core.b64 (FP.Core.round FP.Core.b64 (FP.Core.exactSum (FP.Core.decode FP.Core.b64 x.toNat) (FP.Core.decode FP.Core.b64 y.toNat))))) z ∧ _
  rw [x1, y1]
  exact this
theorem HV_sub {x y : UInt64} {z1 z2 : Int} (hx : HV x z1) (hy : HV y z2) (h3 : -(u2 10 : Int) < z1 - z2) (h4 : z1 - z2 < (u2 10 : Int)) : ∃ z, HV (FP.dsub x y) z ∧ z ≤ z1 - z2 + (UB : Int) ∧ z1 - z2 ≤ z + (UB : Int) := by
  obtain ⟨s, c, q, x1, x2, x3, x4⟩ := hx
  obtain ⟨t, d, r, y1, y2, y3, y4⟩ := hy
  have ng : FP.Core.signed (!t) (d * u2 r) = -z2 := by
    rw [y4]
    cases t
    · rfl
    · show ((d * u2 r : Nat) : Int) = - -((d * u2 r : Nat) : Int)
      omega
  have := HV_sum (s := s) (t := !t) (c := c) (d := d) x2 y2 (w := z1 - z2) (by rw [← x4, ng]; omega) h3 h4
  show ∃ z, HV (UInt64.ofNat (FP.Core.encode FP.Core.b64 (FP.Core.round FP.Core.b64 (FP.Core.exactSum (FP.Core.decode FP.Core.b64 x.toNat) (FP.Core.negate (FP.Core.decode FP.Core.b64 y.toNat)))))) z ∧ _
  rw [x1, y1]
  exact this
theorem HV_mul {x y : UInt64} {z1 z2 : Int} (hx : HV x z1) (hy : HV y z2) (h3 : -((u2 10 : Int) * (u2 0 : Int)) < z1 * z2) (h4 : z1 * z2 < (u2 10 : Int) * (u2 0 : Int)) : ∃ z, HV (FP.dmul x y) z ∧ z * (u2 0 : Int) ≤ z1 * z2 + (UB : Int) * (u2 0 : Int) ∧ z1 * z2 ≤ z * (u2 0 : Int) + (UB : Int) * (u2 0 : Int) := by
  obtain ⟨s, c, q, x1, x2, x3, x4⟩ := hx
  obtain ⟨t, d, r, y1, y2, y3, y4⟩ := hy
  have u0 : (0 : Int) < (u2 0 : Int) := by
    have := u2_pos 0
    omega
  have ev : FP.Core.signed s c * FP.Core.signed t d * (u2 (q + r) : Int) * (u2 0 : Int) = z1 * z2 := by
    have h := u2_mul (p := q) (q := r) (by omega) (by omega) (by omega)
    have h' : (u2 q : Int) * (u2 r : Int) = (u2 (q + r) : Int) * (u2 0 : Int) := by
      rw [← Int.natCast_mul, ← Int.natCast_mul, h]
    rw [x4, y4, ← sg_mul, ← sg_mul, Int.mul_assoc, ← h']
    grind
  have na : (FP.Core.signed s c * FP.Core.signed t d).natAbs = c * d := by
    rw [Int.natAbs_mul]
    have h1 : (FP.Core.signed s c).natAbs = c := by
      cases s
      · exact Int.natAbs_natCast c
      · show (-(c : Int)).natAbs = c
        omega
    have h2 : (FP.Core.signed t d).natAbs = d := by
      cases t
      · exact Int.natAbs_natCast d
      · show (-(d : Int)).natAbs = d
        omega
    rw [h1, h2]
  have sg : FP.Core.signed s c * FP.Core.signed t d ≠ 0 → (s != t) = decide (FP.Core.signed s c * FP.Core.signed t d < 0) := by
    intro nz
    have c0 : c ≠ 0 := fun h9 => nz (by
      have : (FP.Core.signed s c * FP.Core.signed t d).natAbs = 0 := by rw [na, h9, Nat.zero_mul]
      exact Int.natAbs_eq_zero.mp this)
    have d0 : d ≠ 0 := fun h9 => nz (by
      have : (FP.Core.signed s c * FP.Core.signed t d).natAbs = 0 := by rw [na, h9, Nat.mul_zero]
      exact Int.natAbs_eq_zero.mp this)
    have p : (0 : Int) < (c : Int) * (d : Int) := Int.mul_pos (by omega) (by omega)
    cases s <;> cases t
    · show false = decide ((c : Int) * (d : Int) < 0)
      rw [decide_eq_false (by omega)]
    · show true = decide ((c : Int) * -(d : Int) < 0)
      rw [Int.mul_neg, decide_eq_true (by omega)]
    · show true = decide (-(c : Int) * (d : Int) < 0)
      rw [Int.neg_mul, decide_eq_true (by omega)]
    · show false = decide (-(c : Int) * -(d : Int) < 0)
      rw [Int.neg_mul_neg, decide_eq_false (by omega)]
  have g1 : -(u2 10 : Int) < FP.Core.signed s c * FP.Core.signed t d * (u2 (q + r) : Int) := by
    rw [← ev, ← Int.neg_mul] at h3
    exact Int.lt_of_mul_lt_mul_right h3 (Int.le_of_lt u0)
  have g2 : FP.Core.signed s c * FP.Core.signed t d * (u2 (q + r) : Int) < (u2 10 : Int) := by
    rw [← ev] at h4
    exact Int.lt_of_mul_lt_mul_right h4 (Int.le_of_lt u0)
  obtain ⟨z, z1', z2', z3'⟩ := HV_rd (v := FP.Core.signed s c * FP.Core.signed t d) (e := q + r) (S := (s != t)) sg (by omega) g1 g2
  refine ⟨z, ?_, ?_, ?_⟩
  · show HV (UInt64.ofNat (FP.Core.encode FP.Core.b64 (FP.Core.round FP.Core.b64 (FP.Core.exactProduct (FP.Core.decode FP.Core.b64 x.toNat) (FP.Core.decode FP.Core.b64 y.toNat))))) z
    rw [x1, y1]
    rw [na] at z1'
    exact z1'
  · have := Int.mul_le_mul_of_nonneg_right z2' (Int.le_of_lt u0)
    rw [Int.add_mul, ev] at this
    exact this
  · have := Int.mul_le_mul_of_nonneg_right z3' (Int.le_of_lt u0)
    rw [Int.add_mul, ev] at this
    exact this
