/-! doubles: what they stand for, in units of 2^-4000 -/
def u2 (q : Int) : Nat := 2 ^ (q + 4000).toNat
theorem u2_pos (q : Int) : 0 < u2 q := Nat.two_pow_pos _
theorem u2_add {q : Int} (a : Nat) (h : -4000 ≤ q) : u2 (q + a) = 2 ^ a * u2 q := by
  unfold u2
  rw [show (q + (a : Int) + 4000).toNat = a + (q + 4000).toNat by omega, Nat.pow_add]
theorem u2_mono {p q : Int} (h : p ≤ q) : u2 p ≤ u2 q := Nat.pow_le_pow_right (by omega) (by omega)
theorem u2_mul {p q : Int} (hp : -4000 ≤ p) (hq : -4000 ≤ q) (hpq : -4000 ≤ p + q) : u2 p * u2 q = u2 (p + q) * u2 0 := by
  unfold u2
  rw [← Nat.pow_add, ← Nat.pow_add]
  congr 1
  omega
/-- the leading digit -/
theorem lead_ok {num den : Nat} (hn : 0 < num) (hd : 0 < den) : ∃ a b : Nat, FP.Core.leading num den = (a : Int) - (b : Int) ∧ den * 2 ^ a ≤ num * 2 ^ b ∧ num * 2 ^ b < den * 2 ^ (a + 1) := by
  have n1 := Nat.log2_self_le (n := num) (by omega)
  have n2 := Nat.lt_log2_self (n := num)
  have d1 := Nat.log2_self_le (n := den) (by omega)
  have d2 := Nat.lt_log2_self (n := den)
  unfold FP.Core.leading
  generalize num.log2 = ln at *
  generalize den.log2 = ld at *
  obtain ⟨a, ha⟩ : ∃ a : Nat, ((ln : Int) - (ld : Int)).toNat = a := ⟨_, rfl⟩
  obtain ⟨b, hb⟩ : ∃ b : Nat, (-((ln : Int) - (ld : Int))).toNat = b := ⟨_, rfl⟩
  have hab : (ln : Int) - (ld : Int) = (a : Int) - (b : Int) := by omega
  have hl : ln + b = ld + a := by omega
  dsimp only
  rw [ha, hb]
  by_cases c : den * 2 ^ a ≤ num * 2 ^ b
  · rw [if_pos c]
    refine ⟨a, b, hab, c, ?_⟩
    have g1 : num * 2 ^ b < 2 ^ (ln + 1) * 2 ^ b := Nat.mul_lt_mul_of_pos_right n2 (Nat.two_pow_pos b)
    have g2 : 2 ^ ld * 2 ^ (a + 1) ≤ den * 2 ^ (a + 1) := Nat.mul_le_mul_right _ d1
    rw [← Nat.pow_add] at g1 g2
    rw [show ln + 1 + b = ld + (a + 1) by omega] at g1
    omega
  · rw [if_neg c]
    refine ⟨a, b + 1, by omega, ?_, ?_⟩
    · have g1 : den * 2 ^ a < 2 ^ (ld + 1) * 2 ^ a := Nat.mul_lt_mul_of_pos_right d2 (Nat.two_pow_pos a)
      have g2 : 2 ^ ln * 2 ^ (b + 1) ≤ num * 2 ^ (b + 1) := Nat.mul_le_mul_right _ n1
      rw [← Nat.pow_add] at g1 g2
      rw [show ld + 1 + a = ln + (b + 1) by omega] at g1
      omega
    · have e1 : num * 2 ^ (b + 1) = 2 * (num * 2 ^ b) := by
        rw [Nat.pow_succ, ← Nat.mul_assoc, Nat.mul_comm]
      have e2 : den * 2 ^ (a + 1) = 2 * (den * 2 ^ a) := by
        rw [Nat.pow_succ, ← Nat.mul_assoc, Nat.mul_comm]
      rw [e1, e2]
      omega
theorem near_err {n d : Nat} (hd : 0 < d) : 2 * (FP.Core.nearest n d * d) ≤ 2 * n + d ∧ 2 * n ≤ 2 * (FP.Core.nearest n d * d) + d := by
  have e := Nat.div_add_mod n d
  have m := Nat.mod_lt n hd
  have c : d * (n / d) = n / d * d := Nat.mul_comm _ _
  unfold FP.Core.nearest
  by_cases c1 : 2 * (n % d) < d
  · rw [if_pos c1]
    omega
  · rw [if_neg c1]
    by_cases c2 : d < 2 * (n % d)
    · rw [if_pos c2, Nat.add_mul, Nat.one_mul]
      omega
    · rw [if_neg c2, Nat.add_mul]
      rcases Nat.mod_two_eq_zero_or_one (n / d) with h | h
      · rw [h, Nat.zero_mul]
        omega
      · rw [h, Nat.one_mul]
        omega
theorem near_b {n d : Nat} (hd : 0 < d) : (n < d * 2 ^ 53 → FP.Core.nearest n d ≤ 2 ^ 53) ∧ (d * 2 ^ 52 ≤ n → 2 ^ 52 ≤ FP.Core.nearest n d) := by
  have lo : n / d ≤ FP.Core.nearest n d := by
    unfold FP.Core.nearest
    split
    · omega
    · split <;> omega
  have hi : FP.Core.nearest n d ≤ n / d + 1 := by
    unfold FP.Core.nearest
    split
    · omega
    · split <;> omega
  refine ⟨fun h => ?_, fun h => ?_⟩
  · have := Nat.div_lt_of_lt_mul h
    omega
  · have : 2 ^ 52 ≤ n / d := (Nat.le_div_iff_mul_le hd).mpr (by rw [Nat.mul_comm]; exact h)
    omega
theorem near_one (n : Nat) : FP.Core.nearest n 1 = n := by
  unfold FP.Core.nearest
  rw [Nat.mod_one, Nat.div_one, if_pos (by omega)]
/-- what is written is read -/
theorem fp_round {s : Bool} {c : Nat} {q : Int} (hc : c < 2 ^ 53) (h1 : -1074 ≤ q) (h2 : q ≤ 971) (hf : q = -1074 ∨ 2 ^ 52 ≤ c) : FP.Core.decode FP.Core.b64 (UInt64.ofNat (FP.Core.encode FP.Core.b64 (.fin s c q))).toNat = .fin s c q := by
  have qm : FP.Core.b64.qmin = -1074 := by decide
  have tl : FP.Core.b64.tails = 4503599627370496 := by decide
  have ex : FP.Core.b64.exps = 2048 := by decide
  have asm : ∀ (e t : Nat), e < 2047 → t < 4503599627370496 → UInt64.toNat (UInt64.ofNat (FP.Core.assemble FP.Core.b64 s e t)) = FP.Core.assemble FP.Core.b64 s e t ∧ FP.Core.fieldT FP.Core.b64 (FP.Core.assemble FP.Core.b64 s e t) = t ∧ FP.Core.fieldE FP.Core.b64 (FP.Core.assemble FP.Core.b64 s e t) = e ∧ FP.Core.fieldS FP.Core.b64 (FP.Core.assemble FP.Core.b64 s e t) = s := by
    intro e t he ht
    unfold FP.Core.assemble FP.Core.fieldT FP.Core.fieldE FP.Core.fieldS
    rw [tl, ex]
    have sb : s.toNat ≤ 1 := by cases s <;> decide
    refine ⟨?_, by omega, by omega, ?_⟩
    · rw [UInt64.toNat_ofNat']
      omega
    · have e1 : ((s.toNat * 2048 + e) * 4503599627370496 + t) / 4503599627370496 / 2048 % 2 = s.toNat := by omega
      rw [e1]
      cases s <;> rfl
  have en : FP.Core.encode FP.Core.b64 (.fin s c q) = (if c < FP.Core.b64.tails then FP.Core.assemble FP.Core.b64 s 0 c else FP.Core.assemble FP.Core.b64 s ((q - FP.Core.b64.qmin).toNat + 1) (c - FP.Core.b64.tails)) := rfl
  rw [en]
  by_cases g : c < 4503599627370496
  · obtain ⟨a1, a2, a3, a4⟩ := asm 0 c (by omega) g
    have hq : q = -1074 := by
      rcases hf with h9 | h9
      · exact h9
      · omega
    rw [if_pos (show c < FP.Core.b64.tails by rw [tl]; exact g), a1]
    unfold FP.Core.decode
    rw [a2, a3, a4, ex, if_neg (by omega), if_pos rfl, qm, hq]
  · obtain ⟨a1, a2, a3, a4⟩ := asm ((q - -1074).toNat + 1) (c - 4503599627370496) (by omega) (by omega)
    rw [if_neg (show ¬ c < FP.Core.b64.tails by rw [tl]; exact g), qm, tl, a1]
    unfold FP.Core.decode
    rw [a2, a3, a4, ex, if_neg (by omega), if_neg (by omega), qm, tl]
    have e1 : 4503599627370496 + (c - 4503599627370496) = c := by omega
    have e2 : (-1074 : Int) + ((((q - -1074).toNat + 1 : Nat) : Int) - 1) = q := by omega
    rw [e1, e2]
