/-! doubles: the numbers that the law names, shares and products -/
theorem u10 : (u2 10 : Int) = 1024 * (u2 0 : Int) := by
  have := u2_add (q := 0) 10 (by omega)
  rw [show (0 : Int) + ((10 : Nat) : Int) = 10 by omega] at this
  rw [this]
  omega
theorem uB : (u2 0 : Int) = 17592186044416 * (UB : Int) := by
  have := u2_0
  omega
theorem uBp : (0 : Int) < (UB : Int) := by
  have := UB_pos
  omega
theorem u0p : (0 : Int) < (u2 0 : Int) := by
  have := u2_pos 0
  omega
theorem HV_c {x : UInt64} {c : Nat} {q : Int} (h : FP.Core.decode FP.Core.b64 x.toNat = .fin false c q) (h1 : -1074 ≤ q) (h2 : q ≤ 971) : HV x (((c * u2 q : Nat) : Int)) := ⟨false, c, q, h, h1, h2, rfl⟩
theorem HV_0 : HV FP.dconst0 0 := by
  have := HV_c (x := FP.dconst0) (c := 0) (q := -1074) (by decide +kernel) (by omega) (by omega)
  rw [Nat.zero_mul] at this
  exact this
/-- a named number is so many units -/
theorem unitB (k : Nat) {q : Int} (hq : q + (k : Int) = -44 ∧ -4000 ≤ q) : UB = 2 ^ k * u2 q := by
  have := u2_add (q := q) k (by omega)
  rw [hq.1] at this
  exact this
theorem HV_1 : HV FP.dconst1 (u2 0 : Int) := by
  have h := HV_c (x := FP.dconst1) (c := 4503599627370496) (q := -52) (by decide +kernel) (by omega) (by omega)
  have e := u2_add (q := -52) 52 (by omega)
  rw [show (-52 : Int) + ((52 : Nat) : Int) = 0 by omega] at e
  have e2 : (2 : Nat) ^ 52 = 4503599627370496 := by decide
  rw [e2] at e
  rw [← e] at h
  exact h
theorem HV_100 : HV (4636737291354636288 : UInt64) (100 * (u2 0 : Int)) := by
  have h := HV_c (x := (4636737291354636288 : UInt64)) (c := 7036874417766400) (q := -46) (by decide +kernel) (by omega) (by omega)
  have e := u2_add (q := -46) 46 (by omega)
  rw [show (-46 : Int) + ((46 : Nat) : Int) = 0 by omega] at e
  have e2 : (2 : Nat) ^ 46 = 70368744177664 := by decide
  rw [e2] at e
  have e3 : 100 * (u2 0 : Int) = ((7036874417766400 * u2 (-46) : Nat) : Int) := by
    rw [e]
    omega
  rw [e3]
  exact h
theorem HV_m9 : ∃ z, HV (4472406533629990549 : UInt64) z ∧ 10 * (UB : Int) ≤ z ∧ z ≤ (u2 0 : Int) := by
  have h := HV_c (x := (4472406533629990549 : UInt64)) (c := 4835703278458517) (q := -82) (by decide +kernel) (by omega) (by omega)
  have e := unitB 38 (q := -82) (by omega)
  have e2 : (2 : Nat) ^ 38 = 274877906944 := by decide
  rw [e2] at e
  have u := uB
  exact ⟨_, h, by omega, by omega⟩
theorem HV_m7 : ∃ z, HV (4502148214488346440 : UInt64) z ∧ 10 * (UB : Int) ≤ z ∧ z ≤ (u2 0 : Int) := by
  have h := HV_c (x := (4502148214488346440 : UInt64)) (c := 7555786372591432) (q := -76) (by decide +kernel) (by omega) (by omega)
  have e := unitB 32 (q := -76) (by omega)
  have e2 : (2 : Nat) ^ 32 = 4294967296 := by decide
  rw [e2] at e
  have u := uB
  exact ⟨_, h, by omega, by omega⟩
theorem HV_m6 : ∃ z, HV (4517329193108106637 : UInt64) z ∧ 1000 * (UB : Int) ≤ z ∧ z ≤ (u2 0 : Int) := by
  have h := HV_c (x := (4517329193108106637 : UInt64)) (c := 4722366482869645) (q := -72) (by decide +kernel) (by omega) (by omega)
  have e := unitB 28 (q := -72) (by omega)
  have e2 : (2 : Nat) ^ 28 = 268435456 := by decide
  rw [e2] at e
  have u := uB
  exact ⟨_, h, by omega, by omega⟩
theorem HV_m5 : ∃ z, HV (4532020583610935537 : UInt64) z ∧ 1000 * (UB : Int) ≤ z ∧ z ≤ (u2 0 : Int) := by
  have h := HV_c (x := (4532020583610935537 : UInt64)) (c := 5902958103587057) (q := -69) (by decide +kernel) (by omega) (by omega)
  have e := unitB 25 (q := -69) (by omega)
  have e2 : (2 : Nat) ^ 25 = 33554432 := by decide
  rw [e2] at e
  have u := uB
  exact ⟨_, h, by omega, by omega⟩
theorem div_i {x y : UInt64} {a c : Int} (hx : HV x (a * (u2 0 : Int))) (hy : HV y (c * (u2 0 : Int))) (ha : 0 ≤ a) (hc : 0 < c) (hl : a ≤ 500 * c) : ∃ z, HV (FP.ddiv x y) z ∧ 0 ≤ z ∧ z * c ≤ a * (u2 0 : Int) + c * (UB : Int) ∧ a * (u2 0 : Int) ≤ z * c + c * (UB : Int) := by
  have u := u0p
  have p1 := Int.mul_nonneg ha (Int.le_of_lt u)
  have p2 := Int.mul_pos hc u
  have p3 : a * (u2 0 : Int) < c * (u2 0 : Int) * 1024 := by
    have := Int.mul_le_mul_of_nonneg_right hl (Int.le_of_lt u)
    rw [Int.mul_assoc] at this
    omega
  obtain ⟨z, z1, z2, z3, z4⟩ := HV_div hx hy p1 p2 (by
    rw [u10]
    have := Int.mul_lt_mul_of_pos_right p3 u
    have e : c * (u2 0 : Int) * (1024 * (u2 0 : Int)) = c * (u2 0 : Int) * 1024 * (u2 0 : Int) := by rw [Int.mul_assoc (c * (u2 0 : Int)) 1024]
    rw [e]
    exact this)
  refine ⟨z, z1, z2, ?_, ?_⟩
  · have e1 : z * (c * (u2 0 : Int)) = z * c * (u2 0 : Int) := (Int.mul_assoc _ _ _).symm
    have e2 : a * (u2 0 : Int) * (u2 0 : Int) + c * (u2 0 : Int) * (UB : Int) = (a * (u2 0 : Int) + c * (UB : Int)) * (u2 0 : Int) := by grind
    rw [e1, e2] at z3
    exact Int.le_of_mul_le_mul_right z3 u
  · have e1 : z * (c * (u2 0 : Int)) + c * (u2 0 : Int) * (UB : Int) = (z * c + c * (UB : Int)) * (u2 0 : Int) := by grind
    rw [e1] at z4
    exact Int.le_of_mul_le_mul_right z4 u
theorem mul_i {x y : UInt64} {z S : Int} (hx : HV x z) (hy : HV y (S * (u2 0 : Int))) (h1 : -(1024 * (u2 0 : Int)) < z * S) (h2 : z * S < 1024 * (u2 0 : Int)) : ∃ m, HV (FP.dmul x y) m ∧ m ≤ z * S + (UB : Int) ∧ z * S ≤ m + (UB : Int) := by
  have u := u0p
  have e : z * (S * (u2 0 : Int)) = z * S * (u2 0 : Int) := (Int.mul_assoc _ _ _).symm
  obtain ⟨m, m1, m2, m3⟩ := HV_mul hx hy (by
    rw [e, u10, ← Int.neg_mul]
    exact Int.mul_lt_mul_of_pos_right h1 u) (by
    rw [e, u10]
    exact Int.mul_lt_mul_of_pos_right h2 u)
  rw [e, ← Int.add_mul] at m2
  rw [e, ← Int.add_mul] at m3
  exact ⟨m, m1, Int.le_of_mul_le_mul_right m2 u, Int.le_of_mul_le_mul_right m3 u⟩
theorem cl_le {x y : UInt64} {z1 z2 : Int} (hx : HV x z1) (hy : HV y z2) (h : z1 ≤ z2) : Op.cmpValue (FP.dcmp x y) .l ≤ 0 ∧ ¬ 0 < Op.cmpValue (FP.dcmp x y) .l := by
  rw [(HV_cmp hx hy).1]
  by_cases g : z1 < z2
  · rw [if_pos g]
    decide
  · rw [if_neg g, if_pos (by omega)]
    decide
theorem cg_ge {x y : UInt64} {z1 z2 : Int} (hx : HV x z1) (hy : HV y z2) (h : z2 ≤ z1) : ¬ Op.cmpValue (FP.dcmp x y) .g < 0 := by
  rw [(HV_cmp hx hy).2, if_neg (by omega)]
  split <;> decide
