/-! doubles: rounding -/
def UB : Nat := u2 (-44)
theorem u2_0 : u2 0 = 17592186044416 * UB := by
  have := u2_add (q := -44) 44 (by omega)
  rw [show (-44 : Int) + ((44 : Nat) : Int) = 0 by omega] at this
  have e : (2 : Nat) ^ 44 = 17592186044416 := by decide
  rw [this, e]
  unfold UB
  try rfl
theorem UB_pos : 0 < UB := u2_pos _
def unN (num : Nat) (e q : Int) : Nat := num * 2 ^ (e - q).toNat
def udN (den : Nat) (e q : Int) : Nat := den * 2 ^ (q - e).toNat
/-- the significand in its unit, before it is settled -/
theorem rr_b {num den : Nat} {k e q : Int} (hn : 0 < num) (hd : 0 < den) (hk : k = FP.Core.leading num den) (hq : -1074 ≤ q) (hq1 : k + e - 52 ≤ q) (hq2 : q = -1074 ∨ q = k + e - 52) : FP.Core.nearest (unN num e q) (udN den e q) ≤ 2 ^ 53 ∧ (q = -1074 ∨ 2 ^ 52 ≤ FP.Core.nearest (unN num e q) (udN den e q)) := by
  obtain ⟨a, b, l1, l2, l3⟩ := lead_ok hn hd
  rw [← hk] at l1
  have du : 0 < udN den e q := Nat.mul_pos hd (Nat.two_pow_pos _)
  obtain ⟨nb1, nb2⟩ := near_b (n := unN num e q) du
  obtain ⟨i, hi⟩ : ∃ i : Nat, (e - q).toNat = i := ⟨_, rfl⟩
  obtain ⟨j, hj⟩ : ∃ j : Nat, (q - e).toNat = j := ⟨_, rfl⟩
  have un : unN num e q = num * 2 ^ i := by
    unfold unN
    rw [hi]
  have ud : udN den e q = den * 2 ^ j := by
    unfold udN
    rw [hj]
  have e1 : unN num e q * 2 ^ b = num * 2 ^ b * 2 ^ i := by
    rw [un, Nat.mul_assoc, Nat.mul_assoc, Nat.mul_comm (2 ^ i)]
  refine ⟨nb1 ?_, ?_⟩
  · have h1 : num * 2 ^ b * 2 ^ i < den * 2 ^ (a + 1) * 2 ^ i := Nat.mul_lt_mul_of_pos_right l3 (Nat.two_pow_pos i)
    have h2 : den * 2 ^ (a + 1) * 2 ^ i ≤ udN den e q * 2 ^ 53 * 2 ^ b := by
      rw [ud, Nat.mul_assoc, Nat.mul_assoc, Nat.mul_assoc, ← Nat.pow_add, ← Nat.pow_add, ← Nat.pow_add]
      exact Nat.mul_le_mul_left _ (Nat.pow_le_pow_right (by omega) (by omega))
    rw [← e1] at h1
    exact Nat.lt_of_mul_lt_mul_right (Nat.lt_of_lt_of_le h1 h2)
  · rcases hq2 with h9 | h9
    · exact Or.inl h9
    · refine Or.inr (nb2 ?_)
      have h1 : den * 2 ^ a * 2 ^ i ≤ num * 2 ^ b * 2 ^ i := Nat.mul_le_mul_right _ l2
      have h2 : udN den e q * 2 ^ 52 * 2 ^ b = den * 2 ^ a * 2 ^ i := by
        rw [ud, Nat.mul_assoc, Nat.mul_assoc, Nat.mul_assoc, ← Nat.pow_add, ← Nat.pow_add, ← Nat.pow_add]
        congr 2
        omega
      rw [← h2, ← e1] at h1
      exact Nat.le_of_mul_le_mul_right h1 (Nat.two_pow_pos b)
theorem rr_ok {num den : Nat} {s : Bool} {e : Int} (hn : 0 < num) (hd : 0 < den) (hk : FP.Core.leading num den + e ≤ 900) : ∃ c q q0, FP.Core.roundRatio FP.Core.b64 s num den e = .fin s c q ∧ c < 2 ^ 53 ∧ -1074 ≤ q ∧ q ≤ 971 ∧ (q = -1074 ∨ 2 ^ 52 ≤ c) ∧ q0 = max (-1074) (FP.Core.leading num den + e - 52) ∧ c * u2 q = FP.Core.nearest (unN num e q0) (udN den e q0) * u2 q0 := by
  have qm : FP.Core.b64.qmin = -1074 := by decide
  have qx : FP.Core.b64.qmax = 971 := by decide
  have tl : FP.Core.b64.tails = 4503599627370496 := by decide
  have qe : FP.Core.quantum FP.Core.b64 num den e = max (-1074) (FP.Core.leading num den + e - 52) := by
    unfold FP.Core.quantum
    rw [qm]
    rfl
  have b := rr_b (e := e) (q := max (-1074) (FP.Core.leading num den + e - 52)) hn hd rfl (by omega) (by omega) (by omega)
  have q9 : max (-1074) (FP.Core.leading num den + e - 52) ≤ 900 := by omega
  have q8 : -1074 ≤ max (-1074) (FP.Core.leading num den + e - 52) := by omega
  unfold FP.Core.roundRatio FP.Core.roundAt
  rw [if_neg (by omega), qe]
  generalize max (-1074) (FP.Core.leading num den + e - 52) = q0 at *
  have en : FP.Core.nearest (FP.Core.unitsNum num e q0) (FP.Core.unitsDen den e q0) = FP.Core.nearest (unN num e q0) (udN den e q0) := rfl
  rw [en]
  generalize hc0 : FP.Core.nearest (unN num e q0) (udN den e q0) = c0 at *
  unfold FP.Core.settle FP.Core.bound
  have p2 : (2 : Nat) ^ FP.Core.b64.p = 9007199254740992 := by decide
  rw [p2, qx, tl]
  by_cases g : c0 < 9007199254740992
  · rw [if_pos g, if_pos (by omega)]
    exact ⟨c0, q0, q0, rfl, by omega, by omega, by omega, b.2, rfl, by rw [hc0]⟩
  · rw [if_neg g, if_pos (by omega)]
    refine ⟨4503599627370496, q0 + 1, q0, rfl, by omega, by omega, by omega, Or.inr (by omega), rfl, ?_⟩
    have e1 := u2_add (q := q0) 1 (by omega)
    have e2 : c0 = 9007199254740992 := by omega
    have e3 : u2 (q0 + 1) = 2 ^ 1 * u2 q0 := e1
    rw [hc0, e3, e2]
    omega
/-- how far a rounded number is from what it stands for -/
theorem rr_err {num den : Nat} {e q0 : Int} (hn : 0 < num) (hd : 0 < den) (he : -2900 ≤ e) (hb : num * u2 e < den * u2 10) (hq : q0 = max (-1074) (FP.Core.leading num den + e - 52)) : FP.Core.leading num den + e ≤ 9 ∧ FP.Core.nearest (unN num e q0) (udN den e q0) * u2 q0 * den ≤ num * u2 e + den * UB ∧ num * u2 e ≤ FP.Core.nearest (unN num e q0) (udN den e q0) * u2 q0 * den + den * UB := by
  obtain ⟨a, b, l1, l2, l3⟩ := lead_ok hn hd
  have hk : FP.Core.leading num den + e ≤ 9 := by
    by_cases g : FP.Core.leading num den + e ≤ 9
    · exact g
    · exfalso
      have h1 : den * 2 ^ a * u2 e ≤ num * 2 ^ b * u2 e := Nat.mul_le_mul_right _ l2
      have h2 : num * u2 e * 2 ^ b < den * u2 10 * 2 ^ b := Nat.mul_lt_mul_of_pos_right hb (Nat.two_pow_pos b)
      have h3 : den * u2 10 * 2 ^ b = den * u2 (10 + b) := by
        rw [u2_add (q := 10) b (by omega), Nat.mul_assoc, Nat.mul_comm (u2 10)]
      have h4 : den * 2 ^ a * u2 e = den * u2 (e + a) := by
        rw [u2_add (q := e) a (by omega), Nat.mul_assoc]
      have h5 : num * 2 ^ b * u2 e = num * u2 e * 2 ^ b := by
        rw [Nat.mul_assoc, Nat.mul_assoc, Nat.mul_comm (2 ^ b)]
      rw [h4, h5] at h1
      rw [h3] at h2
      have h6 := Nat.lt_of_mul_lt_mul_left (Nat.lt_of_le_of_lt h1 h2)
      have h7 := u2_mono (p := 10 + b) (q := e + a) (by omega)
      omega
  refine ⟨hk, ?_⟩
  have q43 : q0 ≤ -43 := by omega
  have ub : u2 q0 ≤ 2 * UB := by
    have h1 := u2_mono q43
    have h2 := u2_add (q := -44) 1 (by omega)
    rw [show (-44 : Int) + ((1 : Nat) : Int) = -43 by omega] at h2
    unfold UB
    omega
  have dub : den * u2 q0 ≤ 2 * (den * UB) := by
    have := Nat.mul_le_mul_left den ub
    have e1 : den * (2 * UB) = 2 * (den * UB) := by
      rw [← Nat.mul_assoc, Nat.mul_comm den 2, Nat.mul_assoc]
    omega
  have du : 0 < udN den e q0 := Nat.mul_pos hd (Nat.two_pow_pos _)
  obtain ⟨n1, n2⟩ := near_err (n := unN num e q0) du
  generalize FP.Core.nearest (unN num e q0) (udN den e q0) = c at *
  by_cases g : q0 ≤ e
  · have ud : udN den e q0 = den := by
      unfold udN
      rw [show (q0 - e).toNat = 0 by omega]
      omega
    have un : unN num e q0 * u2 q0 = num * u2 e := by
      have h2 := u2_add (q := q0) (e - q0).toNat (by omega)
      rw [show q0 + (((e - q0).toNat : Nat) : Int) = e by omega] at h2
      unfold unN
      rw [h2, Nat.mul_assoc]
    rw [ud] at n1 n2
    have m1 := Nat.mul_le_mul_right (u2 q0) n1
    have m2 := Nat.mul_le_mul_right (u2 q0) n2
    have e1 : 2 * (c * den) * u2 q0 = 2 * (c * u2 q0 * den) := by
      rw [Nat.mul_assoc, Nat.mul_assoc, Nat.mul_comm den, ← Nat.mul_assoc c]
    have e2 : (2 * unN num e q0 + den) * u2 q0 = 2 * (num * u2 e) + den * u2 q0 := by
      rw [Nat.add_mul, Nat.mul_assoc, un]
    have e3 : (2 * (c * den) + den) * u2 q0 = 2 * (c * u2 q0 * den) + den * u2 q0 := by
      rw [Nat.add_mul, e1]
    have e4 : 2 * unN num e q0 * u2 q0 = 2 * (num * u2 e) := by
      rw [Nat.mul_assoc, un]
    rw [e1, e2] at m1
    rw [e3, e4] at m2
    omega
  · have un : unN num e q0 = num := by
      unfold unN
      rw [show (e - q0).toNat = 0 by omega]
      omega
    have ud : udN den e q0 * u2 e = den * u2 q0 := by
      have h2 := u2_add (q := e) (q0 - e).toNat (by omega)
      rw [show e + (((q0 - e).toNat : Nat) : Int) = q0 by omega] at h2
      unfold udN
      rw [h2, Nat.mul_assoc]
    rw [un] at n1 n2
    have m1 := Nat.mul_le_mul_right (u2 e) n1
    have m2 := Nat.mul_le_mul_right (u2 e) n2
    have e1 : 2 * (c * udN den e q0) * u2 e = 2 * (c * u2 q0 * den) := by
      have e0 : 2 * (c * udN den e q0) * u2 e = 2 * (c * (udN den e q0 * u2 e)) := by rw [Nat.mul_assoc, Nat.mul_assoc]
      rw [e0, ud, Nat.mul_comm den, ← Nat.mul_assoc c]
    have e2 : (2 * num + udN den e q0) * u2 e = 2 * (num * u2 e) + den * u2 q0 := by
      rw [Nat.add_mul, Nat.mul_assoc, ud]
    have e3 : (2 * (c * udN den e q0) + udN den e q0) * u2 e = 2 * (c * u2 q0 * den) + den * u2 q0 := by
      rw [Nat.add_mul, e1, ud]
    have e4 : 2 * num * u2 e = 2 * (num * u2 e) := Nat.mul_assoc _ _ _
    rw [e1, e2] at m1
    rw [e3, e4] at m2
    omega
/-- whole numbers are kept -/
theorem rr_int {num : Nat} {q0 : Int} (hn : 0 < num) (hb : num < 2 ^ 53) (hq : q0 = max (-1074) (FP.Core.leading num 1 + 0 - 52)) : FP.Core.leading num 1 + 0 ≤ 52 ∧ FP.Core.nearest (unN num 0 q0) (udN 1 0 q0) * u2 q0 = num * u2 0 := by
  obtain ⟨a, b, l1, l2, l3⟩ := lead_ok hn (show 0 < 1 by omega)
  have hk : FP.Core.leading num 1 + 0 ≤ 52 := by
    by_cases g : FP.Core.leading num 1 + 0 ≤ 52
    · exact g
    · exfalso
      have h1 : 2 ^ (53 + b) ≤ 2 ^ a := Nat.pow_le_pow_right (by omega) (by omega)
      have h2 : num * 2 ^ b < 2 ^ 53 * 2 ^ b := Nat.mul_lt_mul_of_pos_right hb (Nat.two_pow_pos b)
      rw [← Nat.pow_add] at h2
      omega
  refine ⟨hk, ?_⟩
  have ud : udN 1 0 q0 = 1 := by
    unfold udN
    rw [show (q0 - 0).toNat = 0 by omega]
    try rfl
  have un : unN num 0 q0 * u2 q0 = num * u2 0 := by
    have h2 := u2_add (q := q0) (0 - q0).toNat (by omega)
    rw [show q0 + (((0 - q0).toNat : Nat) : Int) = 0 by omega] at h2
    unfold unN
    rw [h2, Nat.mul_assoc]
  rw [ud, near_one, un]
