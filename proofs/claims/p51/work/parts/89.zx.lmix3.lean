/-! isMixed: the loop over the shares, and what is asked of their sums -/
theorem lowT_0 (t b : Nat) : lowT t b 0 = nI (t / Nat.gcd b t) := if_pos rfl
theorem lowT_1 (t b : Nat) : lowT t b 1 = nI (b / Nat.gcd b t) := if_neg (by decide)
theorem gcd_f {t b : Nat} (hb : 0 < b) : 0 < Nat.gcd b t ∧ t / Nat.gcd b t * Nat.gcd b t = t ∧ b / Nat.gcd b t * Nat.gcd b t = b ∧ 0 < b / Nat.gcd b t := by
  have h1 : 0 < Nat.gcd b t := Nat.gcd_pos_of_pos_left t hb
  have h2 := Nat.div_mul_cancel (Nat.gcd_dvd_right b t)
  have h3 := Nat.div_mul_cancel (Nat.gcd_dvd_left b t)
  refine ⟨h1, h2, h3, ?_⟩
  by_cases g : b / Nat.gcd b t = 0
  · rw [g, Nat.zero_mul] at h3
    omega
  · exact Nat.pos_of_ne_zero g
/-- a share as a double -/
theorem P_shr {X T : Nat} (hT : 0 < T) (h2 : T ≤ 20000) (hX : X ≤ T) : ∃ z : Int, HV (FP.ddiv (FP.i2d (nI (X / Nat.gcd T X))) (FP.i2d (nI (T / Nat.gcd T X)))) z ∧ 0 ≤ z ∧ (T : Int) * z ≤ (X : Int) * (u2 0 : Int) + (T : Int) * (UB : Int) ∧ (X : Int) * (u2 0 : Int) ≤ (T : Int) * z + (T : Int) * (UB : Int) := by
  obtain ⟨g1, g2, g3, g4⟩ := gcd_f (t := X) hT
  have lx : X / Nat.gcd T X ≤ X := Nat.div_le_self _ _
  have ly : T / Nat.gcd T X ≤ T := Nat.div_le_self _ _
  have hl : X / Nat.gcd T X ≤ T / Nat.gcd T X := Nat.div_le_div_right hX
  generalize X / Nat.gcd T X = x at *
  generalize T / Nat.gcd T X = y at *
  generalize Nat.gcd T X = g at *
  have ex : (nI x).toInt = (x : Int) := nI_toInt (by omega)
  have ey : (nI y).toInt = (y : Int) := nI_toInt (by omega)
  have hx := HV_i2d (nI x)
  have hy := HV_i2d (nI y)
  rw [ex] at hx
  rw [ey] at hy
  obtain ⟨z, z1, z2, z3, z4⟩ := div_i hx hy (by omega) (by omega) (by omega)
  have eX : (X : Int) = (x : Int) * (g : Int) := by rw [← g2, Int.natCast_mul]
  have eT : (T : Int) = (y : Int) * (g : Int) := by rw [← g3, Int.natCast_mul]
  have k1 := Int.mul_le_mul_of_nonneg_right z3 (show (0 : Int) ≤ (g : Int) by omega)
  have k2 := Int.mul_le_mul_of_nonneg_right z4 (show (0 : Int) ≤ (g : Int) by omega)
  refine ⟨z, z1, z2, ?_, ?_⟩
  · rw [eX, eT, show (y : Int) * (g : Int) * z = z * (y : Int) * (g : Int) by grind, show (x : Int) * (g : Int) * (u2 0 : Int) + (y : Int) * (g : Int) * (UB : Int) = ((x : Int) * (u2 0 : Int) + (y : Int) * (UB : Int)) * (g : Int) by grind]
    exact k1
  · rw [eX, eT, show (x : Int) * (g : Int) * (u2 0 : Int) = (x : Int) * (u2 0 : Int) * (g : Int) by grind, show (y : Int) * (g : Int) * z + (y : Int) * (g : Int) * (UB : Int) = (z * (y : Int) + (y : Int) * (UB : Int)) * (g : Int) by grind]
    exact k2
/-- a share is not more than what there may be -/
theorem P_cap {X T P : Nat} (hT : 0 < T) (hP : P ≤ 100) (hc : 100 * X ≤ P * T) {d : UInt64} {z : Int} (hd : HV d z) (z1 : (T : Int) * z ≤ (X : Int) * (u2 0 : Int) + (T : Int) * (UB : Int)) : ∃ v w : Int, HV (FP.ddiv (FP.i2d (nI P)) (4636737291354636288 : UInt64)) v ∧ HV (FP.dadd (FP.ddiv (FP.i2d (nI P)) (4636737291354636288 : UInt64)) (4472406533629990549 : UInt64)) w ∧ z ≤ w := by
  have u := u0p
  have ub := uB
  have up := uBp
  have TT : (0 : Int) < (T : Int) := by omega
  have eP : (nI P).toInt = (P : Int) := nI_toInt (by omega)
  have hp := HV_i2d (nI P)
  rw [eP] at hp
  obtain ⟨v, v1, v2, v3, v4⟩ := div_i hp HV_100 (by omega) (by omega) (by omega)
  obtain ⟨c9, c91, c92, c93⟩ := HV_m9
  have Pu : (P : Int) * (u2 0 : Int) ≤ 100 * (u2 0 : Int) := Int.mul_le_mul_of_nonneg_right (by omega) (Int.le_of_lt u)
  obtain ⟨w, w1, w2, w3⟩ := HV_add v1 c91 (by rw [u10]; omega) (by rw [u10]; omega)
  refine ⟨v, w, v1, w1, ?_⟩
  have zc : 100 * z ≤ (P : Int) * (u2 0 : Int) + 100 * (UB : Int) := canc TT (by
    have h1 : (100 * (X : Int)) * (u2 0 : Int) ≤ ((P : Int) * (T : Int)) * (u2 0 : Int) := Int.mul_le_mul_of_nonneg_right (by
      rw [← Int.natCast_mul]
      omega) (Int.le_of_lt u)
    have e1 : (T : Int) * (100 * z) = 100 * ((T : Int) * z) := by grind
    have e2 : (T : Int) * ((P : Int) * (u2 0 : Int) + 100 * (UB : Int)) = (P : Int) * (T : Int) * (u2 0 : Int) + 100 * ((T : Int) * (UB : Int)) := by grind
    have e3 : 100 * (X : Int) * (u2 0 : Int) = 100 * ((X : Int) * (u2 0 : Int)) := Int.mul_assoc _ _ _
    rw [e1, e2]
    rw [e3] at h1
    omega)
  omega
/-- what is asked of the sums -/
theorem P_sums {S C P X : Nat → Nat} {T lo hi K : Nat} (hm : MXd S C P X T lo hi K) {a10 a12 a14 : UInt64} (hs : SD S C X T 4 a10 a12 a14) {top bot g : Nat} (hg : 0 < g) (ht : top * g = K) (hb : bot * g = T) {x8 x6 : UInt64} (h6 : HV x6 ((top : Int) * (u2 0 : Int))) (h8 : HV x8 ((bot : Int) * (u2 0 : Int))) : (∃ v, HV (FP.dsub a10 FP.dconst1) v ∧ Op.cmpValue (FP.dcmp (xdabs (FP.dsub a10 FP.dconst1)) (4502148214488346440 : UInt64)) .l ≤ 0) ∧ (∃ v, HV (FP.dsub (FP.i2d (nI lo)) (4517329193108106637 : UInt64)) v ∧ ¬ Op.cmpValue (FP.dcmp a12 (FP.dsub (FP.i2d (nI lo)) (4517329193108106637 : UInt64))) .g < 0) ∧ (∃ v, HV (FP.dadd (FP.i2d (nI hi)) (4517329193108106637 : UInt64)) v ∧ ¬ 0 < Op.cmpValue (FP.dcmp a12 (FP.dadd (FP.i2d (nI hi)) (4517329193108106637 : UInt64))) .l) ∧ (∃ v, HV (FP.ddiv x6 x8) v) ∧ (∃ v, HV (FP.dsub a14 (FP.ddiv x6 x8)) v ∧ Op.cmpValue (FP.dcmp (xdabs (FP.dsub a14 (FP.ddiv x6 x8))) (4532020583610935537 : UInt64)) .l ≤ 0) := by
  obtain ⟨⟨t0, t1⟩, m1, m2, ⟨m3, m4⟩, m5, l1, l2⟩ := hm
  obtain ⟨A, B, D, hA, hB, hD, ⟨a1, a2⟩, ⟨b1, b2⟩, ⟨d1, d2⟩⟩ := hs
  have u := u0p
  have ub := uB
  have up := uBp
  have TT : (0 : Int) < (T : Int) := by omega
  have TB : (0 : Int) < (T : Int) * (UB : Int) := Int.mul_pos TT up
  have e8 : 2 * ((4 : Nat) : Int) * ((T : Int) * (UB : Int)) = (T : Int) * (8 * (UB : Int)) := by
    show 2 * 4 * ((T : Int) * (UB : Int)) = _
    grind
  have e808 : 202 * ((4 : Nat) : Int) * ((T : Int) * (UB : Int)) = (T : Int) * (808 * (UB : Int)) := by
    show 202 * 4 * ((T : Int) * (UB : Int)) = _
    grind
  have e404 : 101 * ((4 : Nat) : Int) * ((T : Int) * (UB : Int)) = (T : Int) * (404 * (UB : Int)) := by
    show 101 * 4 * ((T : Int) * (UB : Int)) = _
    grind
  rw [m2, e8] at a1 a2
  rw [e808] at b1 b2
  rw [m5, e404] at d1 d2
  have A1 : A ≤ (u2 0 : Int) + 8 * (UB : Int) := canc TT (by rw [Int.mul_add]; omega)
  have A2 : (u2 0 : Int) ≤ A + 8 * (UB : Int) := canc TT (by rw [Int.mul_add]; omega)
  have eS : ((lo * T : Nat) : Int) = (lo : Int) * (T : Int) := Int.natCast_mul _ _
  have eH : ((hi * T : Nat) : Int) = (hi : Int) * (T : Int) := Int.natCast_mul _ _
  have B1 : (lo : Int) * (u2 0 : Int) ≤ B + 808 * (UB : Int) := canc TT (by
    have h := Int.mul_le_mul_of_nonneg_right (show (lo : Int) * (T : Int) ≤ (sN (fun k => X k * S k) 4 : Int) by omega) (Int.le_of_lt u)
    rw [Int.mul_add, show (T : Int) * ((lo : Int) * (u2 0 : Int)) = (lo : Int) * (T : Int) * (u2 0 : Int) by grind]
    omega)
  have B2 : B ≤ (hi : Int) * (u2 0 : Int) + 808 * (UB : Int) := canc TT (by
    have h := Int.mul_le_mul_of_nonneg_right (show (sN (fun k => X k * S k) 4 : Int) ≤ (hi : Int) * (T : Int) by omega) (Int.le_of_lt u)
    rw [Int.mul_add, show (T : Int) * ((hi : Int) * (u2 0 : Int)) = (hi : Int) * (T : Int) * (u2 0 : Int) by grind]
    omega)
  have lu : (lo : Int) * (u2 0 : Int) ≤ 200 * (u2 0 : Int) := Int.mul_le_mul_of_nonneg_right (by omega) (Int.le_of_lt u)
  have hu : (hi : Int) * (u2 0 : Int) ≤ 200 * (u2 0 : Int) := Int.mul_le_mul_of_nonneg_right (by omega) (Int.le_of_lt u)
  have lu0 : 0 ≤ (lo : Int) * (u2 0 : Int) := Int.mul_nonneg (by omega) (Int.le_of_lt u)
  have hu0 : 0 ≤ (hi : Int) * (u2 0 : Int) := Int.mul_nonneg (by omega) (Int.le_of_lt u)
  have il : (nI lo).toInt = (lo : Int) := nI_toInt (by omega)
  have ih : (nI hi).toInt = (hi : Int) := nI_toInt (by omega)
  have hl := HV_i2d (nI lo)
  have hh := HV_i2d (nI hi)
  rw [il] at hl
  rw [ih] at hh
  obtain ⟨c7, c71, c72, c73⟩ := HV_m7
  obtain ⟨c6, c61, c62, c63⟩ := HV_m6
  obtain ⟨c5, c51, c52, c53⟩ := HV_m5
  obtain ⟨v1, v11, v12, v13⟩ := HV_sub hA HV_1 (by rw [u10]; omega) (by rw [u10]; omega)
  obtain ⟨v2, v21, v22, v23⟩ := HV_sub hl c61 (by rw [u10]; omega) (by rw [u10]; omega)
  obtain ⟨v3, v31, v32, v33⟩ := HV_add hh c61 (by rw [u10]; omega) (by rw [u10]; omega)
  have mC := sN_mul (X := X) (S := C) (B := 99) (fun k hk => (m1 k hk).2.1) 4 (by omega)
  rw [m2, m5] at mC
  have bp : 0 < bot := by
    by_cases z : bot = 0
    · rw [z, Nat.zero_mul] at hb
      omega
    · omega
  have tl : top ≤ 99 * bot := by
    have h : top * g ≤ 99 * bot * g := by rw [ht, Nat.mul_assoc, hb]; exact mC
    exact Nat.le_of_mul_le_mul_right h hg
  obtain ⟨z, z1, z2, z3, z4⟩ := div_i h6 h8 (by omega) (by omega) (by omega)
  have eK : (K : Int) = (top : Int) * (g : Int) := by rw [← ht, Int.natCast_mul]
  have eT : (T : Int) = (bot : Int) * (g : Int) := by rw [← hb, Int.natCast_mul]
  have k1 : (T : Int) * z ≤ (K : Int) * (u2 0 : Int) + (T : Int) * (UB : Int) := by
    have h := Int.mul_le_mul_of_nonneg_right z3 (show (0 : Int) ≤ (g : Int) by omega)
    rw [eK, eT, show (bot : Int) * (g : Int) * z = z * (bot : Int) * (g : Int) by grind, show (top : Int) * (g : Int) * (u2 0 : Int) + (bot : Int) * (g : Int) * (UB : Int) = ((top : Int) * (u2 0 : Int) + (bot : Int) * (UB : Int)) * (g : Int) by grind]
    exact h
  have k2 : (K : Int) * (u2 0 : Int) ≤ (T : Int) * z + (T : Int) * (UB : Int) := by
    have h := Int.mul_le_mul_of_nonneg_right z4 (show (0 : Int) ≤ (g : Int) by omega)
    rw [eK, eT, show (top : Int) * (g : Int) * (u2 0 : Int) = (top : Int) * (u2 0 : Int) * (g : Int) by grind, show (bot : Int) * (g : Int) * z + (bot : Int) * (g : Int) * (UB : Int) = (z * (bot : Int) + (bot : Int) * (UB : Int)) * (g : Int) by grind]
    exact h
  have D1 : D ≤ z + 405 * (UB : Int) := canc TT (by
    rw [Int.mul_add, show (T : Int) * (405 * (UB : Int)) = (T : Int) * (404 * (UB : Int)) + (T : Int) * (UB : Int) by grind]
    omega)
  have D2 : z ≤ D + 405 * (UB : Int) := canc TT (by
    rw [Int.mul_add, show (T : Int) * (405 * (UB : Int)) = (T : Int) * (404 * (UB : Int)) + (T : Int) * (UB : Int) by grind]
    omega)
  obtain ⟨v5, v51, v52, v53⟩ := HV_sub hD z1 (by rw [u10]; omega) (by rw [u10]; omega)
  exact ⟨⟨v1, v11, (cl_le (HV_abs v11) c71 (by omega)).1⟩, ⟨v2, v21, cg_ge hB v21 (by omega)⟩, ⟨v3, v31, (cl_le hB v31 (by omega)).2⟩, ⟨z, z1⟩, ⟨v5, v51, (cl_le (HV_abs v51) c51 (by omega)).1⟩⟩
