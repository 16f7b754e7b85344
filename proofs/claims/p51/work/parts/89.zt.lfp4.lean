/-! doubles: quotients, order, amounts -/
theorem HV_div {x y : UInt64} {z1 z2 : Int} (hx : HV x z1) (hy : HV y z2) (h1 : 0 ≤ z1) (h2 : 0 < z2) (hb : z1 * (u2 0 : Int) < z2 * (u2 10 : Int)) : ∃ z, HV (FP.ddiv x y) z ∧ 0 ≤ z ∧ z * z2 ≤ z1 * (u2 0 : Int) + z2 * (UB : Int) ∧ z1 * (u2 0 : Int) ≤ z * z2 + z2 * (UB : Int) := by
  obtain ⟨s, c, q, x1, x2, x3, x4⟩ := hx
  obtain ⟨t, d, r, y1, y2, y3, y4⟩ := hy
  have pq := u2_pos q
  have pr := u2_pos r
  have p0 := u2_pos 0
  have ht : t = false := by
    cases t
    · rfl
    · have : FP.Core.signed true (d * u2 r) = -((d * u2 r : Nat) : Int) := rfl
      rw [this] at y4
      omega
  subst ht
  have z2e : z2 = ((d * u2 r : Nat) : Int) := y4
  have dp : 0 < d := by
    by_cases g : d = 0
    · rw [g, Nat.zero_mul] at z2e
      omega
    · omega
  have z1e : z1 = ((c * u2 q : Nat) : Int) ∧ (c ≠ 0 → s = false) := by
    cases s
    · exact ⟨x4, fun _ => rfl⟩
    · have e : z1 = -((c * u2 q : Nat) : Int) := x4
      have e0 : c * u2 q = 0 := by omega
      rw [e0] at e ⊢
      refine ⟨by omega, fun h9 => absurd e0 (Nat.ne_of_gt (Nat.mul_pos (by omega) pq))⟩
  have hu : u2 (q - r) * u2 r = u2 q * u2 0 := by
    have := u2_mul (p := q - r) (q := r) (by omega) (by omega) (by omega)
    rw [show q - r + r = q by omega] at this
    exact this
  have e1 : c * u2 (q - r) * u2 r = c * u2 q * u2 0 := by rw [Nat.mul_assoc, hu, Nat.mul_assoc]
  have hb2 : c * u2 (q - r) < d * u2 10 := by
    have h9 : c * u2 q * u2 0 < d * u2 r * u2 10 := by
      rw [z1e.1, z2e, ← Int.natCast_mul, ← Int.natCast_mul] at hb
      omega
    rw [← e1] at h9
    have e2 : d * u2 r * u2 10 = d * u2 10 * u2 r := by rw [Nat.mul_assoc, Nat.mul_assoc, Nat.mul_comm (u2 r)]
    rw [e2] at h9
    exact Nat.lt_of_mul_lt_mul_right h9
  obtain ⟨m, m1, m2, m3, m4⟩ := HV_round (s := (s != false)) (num := c) (den := d) (e := q - r) dp (by omega) hb2
  have hz : HV (FP.ddiv x y) (m : Int) ∨ (c = 0 ∧ HV (FP.ddiv x y) (FP.Core.signed (s != false) m)) := by
    have e3 : HV (FP.ddiv x y) (FP.Core.signed (s != false) m) := by
      show HV (UInt64.ofNat (FP.Core.encode FP.Core.b64 (FP.Core.quotient FP.Core.b64 (FP.Core.decode FP.Core.b64 x.toNat) (FP.Core.decode FP.Core.b64 y.toNat)))) _
      have eq : FP.Core.quotient FP.Core.b64 (.fin s c q) (.fin false d r) = FP.Core.roundRatio FP.Core.b64 (s != false) c d (q - r) := if_neg (by omega)
      rw [x1, y1, eq]
      exact m1
    by_cases g : c = 0
    · exact Or.inr ⟨g, e3⟩
    · rw [z1e.2 g] at e3
      exact Or.inl e3
  have k2 : m * d * u2 r ≤ c * u2 (q - r) * u2 r + d * UB * u2 r := by
    have := Nat.mul_le_mul_right (u2 r) m2
    rw [Nat.add_mul] at this
    exact this
  have k3 : c * u2 (q - r) * u2 r ≤ m * d * u2 r + d * UB * u2 r := by
    have := Nat.mul_le_mul_right (u2 r) m3
    rw [Nat.add_mul] at this
    exact this
  have e4 : d * UB * u2 r = d * u2 r * UB := by rw [Nat.mul_assoc, Nat.mul_assoc, Nat.mul_comm UB]
  have e5 : m * d * u2 r = m * (d * u2 r) := Nat.mul_assoc _ _ _
  rw [e1, e4, e5] at k2 k3
  have i1 : z1 * (u2 0 : Int) = ((c * u2 q * u2 0 : Nat) : Int) := by rw [z1e.1, ← Int.natCast_mul]
  have i2 : z2 * (UB : Int) = ((d * u2 r * UB : Nat) : Int) := by rw [z2e, ← Int.natCast_mul]
  have i3 : (m : Int) * z2 = ((m * (d * u2 r) : Nat) : Int) := by rw [z2e, ← Int.natCast_mul]
  have hz : HV (FP.ddiv x y) (m : Int) := by
    rcases hz with hz | ⟨g, hz⟩
    · exact hz
    · rw [m4 g] at hz ⊢
      cases s <;> exact hz
  refine ⟨_, hz, by omega, ?_, ?_⟩
  · rw [i1, i2, i3]
    omega
  · rw [i1, i2, i3]
    omega
theorem HV_cmp {x y : UInt64} {z1 z2 : Int} (hx : HV x z1) (hy : HV y z2) : Op.cmpValue (FP.dcmp x y) .l = (if z1 < z2 then -1 else if z1 = z2 then 0 else 1) ∧ Op.cmpValue (FP.dcmp x y) .g = (if z1 < z2 then -1 else if z1 = z2 then 0 else 1) := by
  obtain ⟨s, c, q, x1, x2, x3, x4⟩ := hx
  obtain ⟨t, d, r, y1, y2, y3, y4⟩ := hy
  have eo : FP.dcmp x y = some (compare (FP.Core.signed s (FP.Core.inUnits c q (min q r))) (FP.Core.signed t (FP.Core.inUnits d r (min q r)))) := by
    show FP.Core.order (FP.Core.decode FP.Core.b64 x.toNat) (FP.Core.decode FP.Core.b64 y.toNat) = _
    rw [x1, y1]
    rfl
  have a1 := inU (c := c) (q := q) (e := min q r) s (by omega) (by omega)
  have a2 := inU (c := d) (q := r) (e := min q r) t (by omega) (by omega)
  rw [← x4] at a1
  rw [← y4] at a2
  have up : (0 : Int) < (u2 (min q r) : Int) := by
    have := u2_pos (min q r)
    omega
  rw [eo]
  generalize FP.Core.signed s (FP.Core.inUnits c q (min q r)) = a at *
  generalize FP.Core.signed t (FP.Core.inUnits d r (min q r)) = b at *
  generalize (u2 (min q r) : Int) = u at *
  by_cases g1 : a < b
  · have e : compare a b = .lt := by
      show compareOfLessAndEq a b = .lt
      unfold compareOfLessAndEq
      rw [if_pos g1]
    have l : z1 < z2 := by
      rw [← a1, ← a2]
      exact Int.mul_lt_mul_of_pos_right g1 up
    rw [e, if_pos l]
    exact ⟨rfl, rfl⟩
  · by_cases g2 : a = b
    · have e : compare a b = .eq := by
        show compareOfLessAndEq a b = .eq
        unfold compareOfLessAndEq
        rw [if_neg g1, if_pos g2]
      have l : z1 = z2 := by rw [← a1, ← a2, g2]
      rw [e, if_neg (show ¬ z1 < z2 by omega), if_pos l]
      exact ⟨rfl, rfl⟩
    · have e : compare a b = .gt := by
        show compareOfLessAndEq a b = .gt
        unfold compareOfLessAndEq
        rw [if_neg g1, if_neg g2]
      have l : z2 < z1 := by
        rw [← a1, ← a2]
        exact Int.mul_lt_mul_of_pos_right (by omega) up
      rw [e, if_neg (show ¬ z1 < z2 by omega), if_neg (show ¬ z1 = z2 by omega)]
      exact ⟨rfl, rfl⟩
/-- the fields of a finite double -/
theorem fin_E {n : Nat} {s : Bool} {c : Nat} {q : Int} (h : FP.Core.decode FP.Core.b64 n = .fin s c q) : n / 4503599627370496 % 2048 < 2047 ∧ FP.Core.decode FP.Core.b64 (n % 9223372036854775808) = .fin false c q := by
  have tl : FP.Core.b64.tails = 4503599627370496 := by decide
  have ex : FP.Core.b64.exps = 2048 := by decide
  have fE : ∀ n, FP.Core.fieldE FP.Core.b64 n = n / 4503599627370496 % 2048 := fun n => by
    unfold FP.Core.fieldE
    rw [tl, ex]
  have fT : ∀ n, FP.Core.fieldT FP.Core.b64 n = n % 4503599627370496 := fun n => by
    unfold FP.Core.fieldT
    rw [tl]
  have fS : FP.Core.fieldS FP.Core.b64 (n % 9223372036854775808) = false := by
    unfold FP.Core.fieldS
    rw [tl, ex, show n % 9223372036854775808 / 4503599627370496 / 2048 % 2 = 0 by omega]
    rfl
  have e1 : n % 9223372036854775808 / 4503599627370496 % 2048 = n / 4503599627370496 % 2048 := by omega
  have e2 : n % 9223372036854775808 % 4503599627370496 = n % 4503599627370496 := by omega
  have EB : n / 4503599627370496 % 2048 < 2048 := Nat.mod_lt _ (by omega)
  unfold FP.Core.decode at h ⊢
  rw [fE, fT, ex] at h
  rw [fE, fT, ex, e1, e2, fS]
  generalize n / 4503599627370496 % 2048 = E at *
  by_cases g : E = 2048 - 1
  · rw [if_pos g] at h
    split at h <;> exact nomatch h
  · rw [if_neg g] at h ⊢
    refine ⟨?_, ?_⟩
    · omega
    · by_cases g2 : E = 0
      · rw [if_pos g2] at h ⊢
        cases h
        rfl
      · rw [if_neg g2] at h ⊢
        cases h
        rfl
theorem and_63 (x : UInt64) : (x &&& 0x7fffffffffffffff).toNat = x.toNat % 9223372036854775808 := by
  rw [UInt64.toNat_and]
  show x.toNat &&& (2 ^ 63 - 1) = x.toNat % 2 ^ 63
  exact Nat.and_two_pow_sub_one_eq_mod _ 63
theorem HV_nn {x : UInt64} {z : Int} (hx : HV x z) : isNaN64 x = false := by
  obtain ⟨s, c, q, x1, x2, x3, x4⟩ := hx
  have h := (fin_E x1).1
  unfold isNaN64
  refine decide_eq_false (fun h9 => ?_)
  have h9 : (0x7ff0000000000000 : UInt64).toNat < (x &&& 0x7fffffffffffffff).toNat := UInt64.lt_iff_toNat_lt.mp h9
  rw [and_63] at h9
  have e : (0x7ff0000000000000 : UInt64).toNat = 9218868437227405312 := by decide
  rw [e] at h9
  omega
theorem HV_abs {x : UInt64} {z : Int} (hx : HV x z) : HV (xdabs x) (z.natAbs : Int) := by
  obtain ⟨s, c, q, x1, x2, x3, x4⟩ := hx
  refine ⟨false, c, q, ?_, x2, x3, ?_⟩
  · unfold xdabs
    rw [and_63]
    exact (fin_E x1).2
  · rw [x4]
    cases s
    · show ((((c * u2 q : Nat) : Int).natAbs : Nat) : Int) = ((c * u2 q : Nat) : Int)
      omega
    · show (((-((c * u2 q : Nat) : Int)).natAbs : Nat) : Int) = ((c * u2 q : Nat) : Int)
      omega
