/-! isMixed: the shares as doubles -/
theorem canc {T a b : Int} (h : 0 < T) (l : T * a ≤ T * b) : a ≤ b := Int.le_of_mul_le_mul_left l h
/-- what is given of the best mix: T X-parts, that sum to T -/
def MXd (S C P X : Nat → Nat) (T lo hi K : Nat) : Prop := (0 < T ∧ T ≤ 20000) ∧ (∀ f, f < 4 → S f ≤ 200 ∧ C f ≤ 99 ∧ P f ≤ 100 ∧ 100 * X f ≤ P f * T ∧ X f ≤ T) ∧ sN X 4 = T ∧ (lo * T ≤ sN (fun k => X k * S k) 4 ∧ sN (fun k => X k * S k) 4 ≤ hi * T) ∧ sN (fun k => X k * C k) 4 = K ∧ lo ≤ 200 ∧ hi ≤ 200
/-- the sums in doubles, so far -/
def SD (S C X : Nat → Nat) (T f : Nat) (a10 a12 a14 : UInt64) : Prop := ∃ A B D : Int, HV a10 A ∧ HV a12 B ∧ HV a14 D ∧ ((T : Int) * A ≤ (sN X f : Int) * (u2 0 : Int) + 2 * f * ((T : Int) * (UB : Int)) ∧ (sN X f : Int) * (u2 0 : Int) ≤ (T : Int) * A + 2 * f * ((T : Int) * (UB : Int))) ∧ ((T : Int) * B ≤ (sN (fun k => X k * S k) f : Int) * (u2 0 : Int) + 202 * f * ((T : Int) * (UB : Int)) ∧ (sN (fun k => X k * S k) f : Int) * (u2 0 : Int) ≤ (T : Int) * B + 202 * f * ((T : Int) * (UB : Int))) ∧ ((T : Int) * D ≤ (sN (fun k => X k * C k) f : Int) * (u2 0 : Int) + 101 * f * ((T : Int) * (UB : Int)) ∧ (sN (fun k => X k * C k) f : Int) * (u2 0 : Int) ≤ (T : Int) * D + 101 * f * ((T : Int) * (UB : Int)))
theorem sN_mul {X S : Nat → Nat} {B : Nat} (h : ∀ k, k < 4 → S k ≤ B) : ∀ f, f ≤ 4 → sN (fun k => X k * S k) f ≤ B * sN X f
  | 0, _ => Nat.zero_le _
  | f + 1, hf => by
    have ih := sN_mul (X := X) h f (by omega)
    have m := Nat.mul_le_mul_left (X f) (h f (by omega))
    show sN (fun k => X k * S k) f + X f * S f ≤ B * (sN X f + X f)
    rw [Nat.mul_add, Nat.mul_comm B (X f)]
    omega
/-- one share more -/
theorem SD_step {S C P X : Nat → Nat} {T lo hi K : Nat} (hm : MXd S C P X T lo hi K) {f : Nat} (hf : f < 4) {a10 a12 a14 d : UInt64} (hs : SD S C X T f a10 a12 a14) {z : Int} (hd : HV d z) (z0 : 0 ≤ z) (z1 : (T : Int) * z ≤ (X f : Int) * (u2 0 : Int) + (T : Int) * (UB : Int)) (z2 : (X f : Int) * (u2 0 : Int) ≤ (T : Int) * z + (T : Int) * (UB : Int)) : (∃ v, HV (FP.dadd a10 d) v) ∧ (∃ v, HV (FP.dmul d (FP.i2d (nI (S f)))) v) ∧ (∃ v, HV (FP.dadd a12 (FP.dmul d (FP.i2d (nI (S f))))) v) ∧ (∃ v, HV (FP.dmul d (FP.i2d (nI (C f)))) v) ∧ (∃ v, HV (FP.dadd a14 (FP.dmul d (FP.i2d (nI (C f))))) v) ∧ SD S C X T (f + 1) (FP.dadd a10 d) (FP.dadd a12 (FP.dmul d (FP.i2d (nI (S f))))) (FP.dadd a14 (FP.dmul d (FP.i2d (nI (C f))))) := by
  obtain ⟨⟨t0, t1⟩, m1, m2, m3, m4, _⟩ := hm
  obtain ⟨s1, c1, p1, x1, x2⟩ := m1 f hf
  obtain ⟨A, B, D, hA, hB, hD, ⟨a1, a2⟩, ⟨b1, b2⟩, ⟨d1, d2⟩⟩ := hs
  have u := u0p
  have ub := uB
  have up := uBp
  have TT : (0 : Int) < (T : Int) := by omega
  have TB : (0 : Int) < (T : Int) * (UB : Int) := Int.mul_pos TT up
  have mo : sN X f ≤ T := by
    rw [← m2]
    exact sN_mono f 4 (by omega)
  have mS := sN_mul (X := X) (S := S) (B := 200) (fun k hk => (m1 k hk).1) f (by omega)
  have mC := sN_mul (X := X) (S := C) (B := 99) (fun k hk => (m1 k hk).2.1) f (by omega)
  have zU : z ≤ (u2 0 : Int) + (UB : Int) := canc TT (by
    have := Int.mul_le_mul_of_nonneg_right (show (X f : Int) ≤ (T : Int) by omega) (Int.le_of_lt u)
    rw [Int.mul_add]
    omega)
  have AU : A ≤ (u2 0 : Int) + 8 * (UB : Int) := canc TT (by
    have := Int.mul_le_mul_of_nonneg_right (show (sN X f : Int) ≤ (T : Int) by omega) (Int.le_of_lt u)
    rw [Int.mul_add, show (T : Int) * (8 * (UB : Int)) = 8 * ((T : Int) * (UB : Int)) by grind]
    have : 2 * (f : Int) * ((T : Int) * (UB : Int)) ≤ 8 * ((T : Int) * (UB : Int)) := Int.mul_le_mul_of_nonneg_right (by omega) (Int.le_of_lt TB)
    omega)
  have AL : -(8 * (UB : Int)) ≤ A := canc TT (by
    have g0 : (0 : Int) ≤ (sN X f : Int) * (u2 0 : Int) := Int.mul_nonneg (by omega) (Int.le_of_lt u)
    rw [Int.mul_neg, show (T : Int) * (8 * (UB : Int)) = 8 * ((T : Int) * (UB : Int)) by grind]
    have : 2 * (f : Int) * ((T : Int) * (UB : Int)) ≤ 8 * ((T : Int) * (UB : Int)) := Int.mul_le_mul_of_nonneg_right (by omega) (Int.le_of_lt TB)
    omega)
  have BU : B ≤ 200 * (u2 0 : Int) + 808 * (UB : Int) := canc TT (by
    have := Int.mul_le_mul_of_nonneg_right (show (sN (fun k => X k * S k) f : Int) ≤ 200 * (T : Int) by omega) (Int.le_of_lt u)
    rw [Int.mul_add, show (T : Int) * (808 * (UB : Int)) = 808 * ((T : Int) * (UB : Int)) by grind, show (T : Int) * (200 * (u2 0 : Int)) = 200 * (T : Int) * (u2 0 : Int) by grind]
    have : 202 * (f : Int) * ((T : Int) * (UB : Int)) ≤ 808 * ((T : Int) * (UB : Int)) := Int.mul_le_mul_of_nonneg_right (by omega) (Int.le_of_lt TB)
    omega)
  have BL : -(808 * (UB : Int)) ≤ B := canc TT (by
    have g0 : (0 : Int) ≤ (sN (fun k => X k * S k) f : Int) * (u2 0 : Int) := Int.mul_nonneg (by omega) (Int.le_of_lt u)
    rw [Int.mul_neg, show (T : Int) * (808 * (UB : Int)) = 808 * ((T : Int) * (UB : Int)) by grind]
    have : 202 * (f : Int) * ((T : Int) * (UB : Int)) ≤ 808 * ((T : Int) * (UB : Int)) := Int.mul_le_mul_of_nonneg_right (by omega) (Int.le_of_lt TB)
    omega)
  have DU : D ≤ 99 * (u2 0 : Int) + 404 * (UB : Int) := canc TT (by
    have := Int.mul_le_mul_of_nonneg_right (show (sN (fun k => X k * C k) f : Int) ≤ 99 * (T : Int) by omega) (Int.le_of_lt u)
    rw [Int.mul_add, show (T : Int) * (404 * (UB : Int)) = 404 * ((T : Int) * (UB : Int)) by grind, show (T : Int) * (99 * (u2 0 : Int)) = 99 * (T : Int) * (u2 0 : Int) by grind]
    have : 101 * (f : Int) * ((T : Int) * (UB : Int)) ≤ 404 * ((T : Int) * (UB : Int)) := Int.mul_le_mul_of_nonneg_right (by omega) (Int.le_of_lt TB)
    omega)
  have DL : -(404 * (UB : Int)) ≤ D := canc TT (by
    have g0 : (0 : Int) ≤ (sN (fun k => X k * C k) f : Int) * (u2 0 : Int) := Int.mul_nonneg (by omega) (Int.le_of_lt u)
    rw [Int.mul_neg, show (T : Int) * (404 * (UB : Int)) = 404 * ((T : Int) * (UB : Int)) by grind]
    have : 101 * (f : Int) * ((T : Int) * (UB : Int)) ≤ 404 * ((T : Int) * (UB : Int)) := Int.mul_le_mul_of_nonneg_right (by omega) (Int.le_of_lt TB)
    omega)
  have zS0 : 0 ≤ z * (S f : Int) := Int.mul_nonneg z0 (by omega)
  have zS : z * (S f : Int) ≤ 200 * (u2 0 : Int) + 200 * (UB : Int) := by
    have h1 := Int.mul_le_mul_of_nonneg_left (show (S f : Int) ≤ 200 by omega) z0
    omega
  have zC0 : 0 ≤ z * (C f : Int) := Int.mul_nonneg z0 (by omega)
  have zC : z * (C f : Int) ≤ 99 * (u2 0 : Int) + 99 * (UB : Int) := by
    have h1 := Int.mul_le_mul_of_nonneg_left (show (C f : Int) ≤ 99 by omega) z0
    omega
  have iS : (nI (S f)).toInt = (S f : Int) := nI_toInt (by omega)
  have iC : (nI (C f)).toInt = (C f : Int) := nI_toInt (by omega)
  have hS := HV_i2d (nI (S f))
  have hC := HV_i2d (nI (C f))
  rw [iS] at hS
  rw [iC] at hC
  obtain ⟨mS', mS1, mS2, mS3⟩ := mul_i hd hS (by omega) (by omega)
  obtain ⟨mC', mC1, mC2, mC3⟩ := mul_i hd hC (by omega) (by omega)
  obtain ⟨A', hA', A1, A2⟩ := HV_add hA hd (by rw [u10]; omega) (by rw [u10]; omega)
  obtain ⟨B', hB', B1, B2⟩ := HV_add hB mS1 (by rw [u10]; omega) (by rw [u10]; omega)
  obtain ⟨D', hD', D1, D2⟩ := HV_add hD mC1 (by rw [u10]; omega) (by rw [u10]; omega)
  refine ⟨⟨_, hA'⟩, ⟨_, mS1⟩, ⟨_, hB'⟩, ⟨_, mC1⟩, ⟨_, hD'⟩, A', B', D', hA', hB', hD', ?_, ?_, ?_⟩
  · have e : ((sN X (f + 1) : Nat) : Int) = (sN X f : Int) + (X f : Int) := by
      show ((sN X f + X f : Nat) : Int) = _
      omega
    have k1 := Int.mul_le_mul_of_nonneg_left A1 (Int.le_of_lt TT)
    have k2 := Int.mul_le_mul_of_nonneg_left A2 (Int.le_of_lt TT)
    rw [Int.mul_add, Int.mul_add] at k1
    rw [Int.mul_add, Int.mul_add] at k2
    have e2 : 2 * ((f + 1 : Nat) : Int) * ((T : Int) * (UB : Int)) = 2 * (f : Int) * ((T : Int) * (UB : Int)) + 2 * ((T : Int) * (UB : Int)) := by
      rw [show ((f + 1 : Nat) : Int) = (f : Int) + 1 by omega]
      grind
    rw [e, Int.add_mul, e2]
    omega
  · have e : ((sN (fun k => X k * S k) (f + 1) : Nat) : Int) = (sN (fun k => X k * S k) f : Int) + (X f : Int) * (S f : Int) := by
      show ((sN (fun k => X k * S k) f + X f * S f : Nat) : Int) = _
      omega
    have k1 := Int.mul_le_mul_of_nonneg_left B1 (Int.le_of_lt TT)
    have k2 := Int.mul_le_mul_of_nonneg_left B2 (Int.le_of_lt TT)
    have k3 := Int.mul_le_mul_of_nonneg_left mS2 (Int.le_of_lt TT)
    have k4 := Int.mul_le_mul_of_nonneg_left mS3 (Int.le_of_lt TT)
    have k5 := Int.mul_le_mul_of_nonneg_right z1 (show (0 : Int) ≤ (S f : Int) by omega)
    have k6 := Int.mul_le_mul_of_nonneg_right z2 (show (0 : Int) ≤ (S f : Int) by omega)
    have k7 := Int.mul_le_mul_of_nonneg_left (show (S f : Int) ≤ 200 by omega) (Int.le_of_lt TB)
    rw [Int.mul_add, Int.mul_add] at k1
    rw [Int.mul_add, Int.mul_add] at k2
    rw [Int.mul_add, ← Int.mul_assoc] at k3
    rw [Int.mul_add, ← Int.mul_assoc] at k4
    rw [Int.add_mul] at k5 k6
    have e2 : 202 * ((f + 1 : Nat) : Int) * ((T : Int) * (UB : Int)) = 202 * (f : Int) * ((T : Int) * (UB : Int)) + 202 * ((T : Int) * (UB : Int)) := by
      rw [show ((f + 1 : Nat) : Int) = (f : Int) + 1 by omega]
      grind
    have e3 : (X f : Int) * (u2 0 : Int) * (S f : Int) = (X f : Int) * (S f : Int) * (u2 0 : Int) := by grind
    rw [e3] at k5 k6
    rw [e, Int.add_mul, e2]
    omega
  · have e : ((sN (fun k => X k * C k) (f + 1) : Nat) : Int) = (sN (fun k => X k * C k) f : Int) + (X f : Int) * (C f : Int) := by
      show ((sN (fun k => X k * C k) f + X f * C f : Nat) : Int) = _
      omega
    have k1 := Int.mul_le_mul_of_nonneg_left D1 (Int.le_of_lt TT)
    have k2 := Int.mul_le_mul_of_nonneg_left D2 (Int.le_of_lt TT)
    have k3 := Int.mul_le_mul_of_nonneg_left mC2 (Int.le_of_lt TT)
    have k4 := Int.mul_le_mul_of_nonneg_left mC3 (Int.le_of_lt TT)
    have k5 := Int.mul_le_mul_of_nonneg_right z1 (show (0 : Int) ≤ (C f : Int) by omega)
    have k6 := Int.mul_le_mul_of_nonneg_right z2 (show (0 : Int) ≤ (C f : Int) by omega)
    have k7 := Int.mul_le_mul_of_nonneg_left (show (C f : Int) ≤ 99 by omega) (Int.le_of_lt TB)
    rw [Int.mul_add, Int.mul_add] at k1
    rw [Int.mul_add, Int.mul_add] at k2
    rw [Int.mul_add, ← Int.mul_assoc] at k3
    rw [Int.mul_add, ← Int.mul_assoc] at k4
    rw [Int.add_mul] at k5 k6
    have e2 : 101 * ((f + 1 : Nat) : Int) * ((T : Int) * (UB : Int)) = 101 * (f : Int) * ((T : Int) * (UB : Int)) + 101 * ((T : Int) * (UB : Int)) := by
      rw [show ((f + 1 : Nat) : Int) = (f : Int) + 1 by omega]
      grind
    have e3 : (X f : Int) * (u2 0 : Int) * (C f : Int) = (X f : Int) * (C f : Int) * (u2 0 : Int) := by grind
    rw [e3] at k5 k6
    rw [e, Int.add_mul, e2]
    omega
