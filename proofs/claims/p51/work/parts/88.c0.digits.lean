/-! ===== THE DIGITS THAT ARE GIVEN: ones ===== -/
set_option maxRecDepth 100000 in
set_option maxHeartbeats 4000000 in
theorem ini_ones5_0 : ∀ j : Nat, j < 20 → Cond.eq (.elem (.static "java/lang/Integer" "DigitOnes" "[B") (.int (Int32.ofNat (0 + j)))) (.int (xOnes (0 + j))) ∈ flatC (Jvm.Cond.and given_1 narrow_1) := by decide +kernel
set_option maxRecDepth 100000 in
set_option maxHeartbeats 4000000 in
theorem ini_ones5_1 : ∀ j : Nat, j < 20 → Cond.eq (.elem (.static "java/lang/Integer" "DigitOnes" "[B") (.int (Int32.ofNat (20 + j)))) (.int (xOnes (20 + j))) ∈ flatC (Jvm.Cond.and given_1 narrow_1) := by decide +kernel
set_option maxRecDepth 100000 in
set_option maxHeartbeats 4000000 in
theorem ini_ones5_2 : ∀ j : Nat, j < 20 → Cond.eq (.elem (.static "java/lang/Integer" "DigitOnes" "[B") (.int (Int32.ofNat (40 + j)))) (.int (xOnes (40 + j))) ∈ flatC (Jvm.Cond.and given_1 narrow_1) := by decide +kernel
set_option maxRecDepth 100000 in
set_option maxHeartbeats 4000000 in
theorem ini_ones5_3 : ∀ j : Nat, j < 20 → Cond.eq (.elem (.static "java/lang/Integer" "DigitOnes" "[B") (.int (Int32.ofNat (60 + j)))) (.int (xOnes (60 + j))) ∈ flatC (Jvm.Cond.and given_1 narrow_1) := by decide +kernel
set_option maxRecDepth 100000 in
set_option maxHeartbeats 4000000 in
theorem ini_ones5_4 : ∀ j : Nat, j < 20 → Cond.eq (.elem (.static "java/lang/Integer" "DigitOnes" "[B") (.int (Int32.ofNat (80 + j)))) (.int (xOnes (80 + j))) ∈ flatC (Jvm.Cond.and given_1 narrow_1) := by decide +kernel
theorem ini_ones5 : ∀ j : Nat, j < 100 → Cond.eq (.elem (.static "java/lang/Integer" "DigitOnes" "[B") (.int (Int32.ofNat j))) (.int (xOnes j)) ∈ flatC (Jvm.Cond.and given_1 narrow_1) := by
  intro j hj
  by_cases h0 : j < 20
  · have h := ini_ones5_0 j h0
    rw [Nat.zero_add] at h
    exact h
  by_cases h1 : j < 40
  · have h := ini_ones5_1 (j - 20) (by omega)
    rw [show 20 + (j - 20) = j by omega] at h
    exact h
  by_cases h2 : j < 60
  · have h := ini_ones5_2 (j - 40) (by omega)
    rw [show 40 + (j - 40) = j by omega] at h
    exact h
  by_cases h3 : j < 80
  · have h := ini_ones5_3 (j - 60) (by omega)
    rw [show 60 + (j - 60) = j by omega] at h
    exact h
  have h := ini_ones5_4 (j - 80) (by omega)
  rw [show 80 + (j - 80) = j by omega] at h
  exact h
