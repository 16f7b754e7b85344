/-! ===== AMOUNTS: the law's sums over a recipe's parts ===== -/
theorem sN_mono {pv : Nat → Nat} : ∀ k j, k ≤ j → sN pv k ≤ sN pv j
  | k, 0, h => by rw [show k = 0 by omega]; exact Nat.le_refl _
  | k, j + 1, h => by
    by_cases c : k = j + 1
    · rw [c]; exact Nat.le_refl _
    · have := sN_mono (pv := pv) k j (by omega)
      show sN pv k ≤ sN pv j + pv j
      omega
theorem sN_b {pv : Nat → Nat} (h : ∀ j, pv j < 100) : ∀ k, sN pv k ≤ 100 * k
  | 0 => Nat.le_refl 0
  | k + 1 => by
    have h1 := sN_b h k
    have h2 := h k
    show sN pv k + pv k ≤ _
    omega
theorem pu_sN {s : sS} {r : Nat} {pv : Nat → Nat} : ∀ k, (∀ j, j < k → s (55 + (8 * r + j)) = nI (pv j)) → pu s r k = nI (sN pv k)
  | 0, _ => rfl
  | k + 1, h => by
    have h1 := pu_sN k (fun j hj => h j (by omega))
    show s32 (fun j => s (55 + (8 * r + j))) k + s (55 + (8 * r + k)) = nI (sN pv k + pv k)
    rw [h k (by omega), ← nI_add, ← h1]
    rfl
theorem lN_div {a b : Nat} (ha : a < 2 ^ 63) (hb : b < 2 ^ 63) : lN a / lN b = lN (a / b) := by
  apply Int64.toInt_inj.mp
  have ha2 : (lN a).toInt = (a : Int) := lg_ofNat_toInt ha
  have hb2 : (lN b).toInt = (b : Int) := lg_ofNat_toInt hb
  have hc2 : (lN (a / b)).toInt = ((a / b : Nat) : Int) := lg_ofNat_toInt (Nat.lt_of_le_of_lt (Nat.div_le_self a b) ha)
  rw [Int64.toInt_div, ha2, hb2, hc2, Int.tdiv_eq_ediv_of_nonneg (by omega)]
  have h2 : a / b ≤ a := Nat.div_le_self a b
  have h1 : ∀ q : Nat, q ≤ a → Int.bmod (q : Int) (2 ^ 64) = (q : Int) := fun q hq =>
    Int.bmod_eq_of_le (by omega) (by omega)
  exact h1 (a / b) h2
theorem up64_q {s : sS} {r G k : Nat} {pv : Nat → Nat} (hs : ∀ j, j < 8 → s (55 + (8 * r + j)) = nI (pv j)) (hv : ∀ j, pv j < 100) (hk : k ≤ 8) (hG : G ≤ 100000) : up64 s r (nI G) k = lN (G * sN pv k / sN pv 8) := by
  have b1 := sN_b hv k
  have b2 := sN_b hv 8
  unfold up64
  rw [pu_sN k (fun j hj => hs j (by omega)), pu_sN 8 hs, nI_l (by omega), nI_l (by omega), nI_l (by omega), lN_mul]
  have h1 : G * sN pv k ≤ 100000 * 800 := Nat.mul_le_mul hG (by omega)
  exact lN_div (by omega) (by omega)
theorem amt_q {s : sS} {r G k : Nat} {pv : Nat → Nat} (hs : ∀ j, j < 8 → s (55 + (8 * r + j)) = nI (pv j)) (hv : ∀ j, pv j < 100) (hk : k < 8) (hG : G ≤ 100000) : amt s r (nI G) k = nI (G * sN pv (k + 1) / sN pv 8 - G * sN pv k / sN pv 8) := by
  unfold amt
  rw [up64_q hs hv (by omega) hG, up64_q hs hv (by omega) hG, lN_i, lN_i, pk_sub]
  exact Nat.div_le_div_right (Nat.mul_le_mul_left G (sN_mono k (k + 1) (by omega)))
/-- a good's amount is its share, within less than a gram -/
theorem amt_near {G S U p : Nat} (hS : 0 < S) : ((G * (U + p) / S - G * U / S : Nat) : Int) * S - G * p < S ∧ -(S : Int) < ((G * (U + p) / S - G * U / S : Nat) : Int) * S - G * p := by
  have h1 := Nat.div_add_mod (G * (U + p)) S
  have h2 := Nat.div_add_mod (G * U) S
  have h3 := Nat.mod_lt (G * (U + p)) hS
  have h4 := Nat.mod_lt (G * U) hS
  have hle : G * U / S ≤ G * (U + p) / S := Nat.div_le_div_right (Nat.mul_le_mul_left G (Nat.le_add_right U p))
  have hm : G * (U + p) = G * U + G * p := Nat.mul_add G U p
  generalize G * (U + p) / S = x at *
  generalize G * U / S = y at *
  generalize G * (U + p) % S = a at *
  generalize G * U % S = b at *
  rw [hm] at h1
  generalize G * U = u at *
  have hgp : (G : Int) * (p : Int) = ((G * p : Nat) : Int) := by rw [Int.natCast_mul]
  rw [hgp]
  generalize G * p = w at *
  have e1 : ((x - y : Nat) : Int) * (S : Int) = ((S * x : Nat) : Int) - ((S * y : Nat) : Int) := by
    rw [Int.ofNat_sub hle, Int.sub_mul, Int.natCast_mul, Int.natCast_mul, Int.mul_comm, Int.mul_comm (y : Int)]
  rw [e1]
  omega
theorem lg_near {d S G p : Nat} (hd : d ≤ 100000) (hS : S ≤ 800) (hG : G ≤ 100000) (hp : p ≤ 100) (h1 : (d : Int) * S - G * p < S) (h2 : -(S : Int) < (d : Int) * S - G * p) : lg_cmp (xabs (((Int32.toInt64 (nI d)) * (Int32.toInt64 (nI S))) - ((Int32.toInt64 (nI G)) * (Int32.toInt64 (nI p))))) (Int32.toInt64 (nI S)) < 0 := by
  rw [nI_l (by omega), nI_l (by omega), nI_l (by omega), nI_l (by omega), lN_mul, lN_mul]
  have b1 : d * S ≤ 100000 * 800 := Nat.mul_le_mul hd hS
  have b2 : G * p ≤ 100000 * 100 := Nat.mul_le_mul hG hp
  rw [lg_cmp_lt, Int64.lt_iff_toInt_lt, lN_toInt (by omega)]
  have e1 : ((d * S : Nat) : Int) = (d : Int) * S := Int.natCast_mul d S
  have e2 : ((G * p : Nat) : Int) = (G : Int) * p := Int.natCast_mul G p
  rw [← e1, ← e2] at h1 h2
  generalize d * S = A at *
  generalize G * p = B at *
  have hA : (lN A).toInt = (A : Int) := lN_toInt (by omega)
  have hB : (lN B).toInt = (B : Int) := lN_toInt (by omega)
  have hs : (lN A - lN B).toInt = (A : Int) - B := by
    rw [Int64.toInt_sub, hA, hB]
    exact Int.bmod_eq_of_le (by omega) (by omega)
  unfold xabs
  by_cases c : 0 < lN A - lN B
  · rw [if_pos c, hs]
    omega
  · rw [if_neg c]
    rw [Int64.lt_iff_toInt_lt, hs] at c
    have c : ¬ (0 : Int) < (A : Int) - B := c
    rw [Int64.toInt_neg, hs]
    rw [Int.bmod_eq_of_le (by omega) (by omega)]
    omega
