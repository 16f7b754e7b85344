/-! isMixed: whole -/
theorem P_c197 {N : Nat} {H : List sS} {s : sS} {tx : (Nat → Int32) × Nat} {S C P X : Nat → Nat} {T lo hi K : Nat} {rd1 rd2 rd3 : Nat → Int32} (hI : Inv N s) (g : bnd (nI lo) (nI hi)) {b : Cd} (hM : Mn s (nI lo).toInt (nI hi).toInt (TC s (nI lo).toInt (nI hi).toInt) (some b)) (hm : MXd S C P X T lo hi K) (hX : ∀ f, f < 4 → (b.1 f).toNat = X f) (hT : (100 * b.2).toNat = T) (hF : FM s S C P) (h1 : FR S rd1) (h2 : FR C rd2) (h3 : FR P rd3) (hno : ∀ a b c e, a + b + c + e = 10 → feas s lo hi (grd a b c e, 1) → 10 * (K / Nat.gcd T K) ≤ sN4 C a b c e * (T / Nat.gcd T K)) : ∀ (d f n : Nat) (σ : xSt) (a10 a12 a14 : UInt64), f + d = 4 → d < n → RX σ (H, s, tx) → SD S C X T f a10 a12 a14 → ∃ σ', RX σ' (H, s, tx) ∧ kL σ σ' ∧ fL_isMixed_c197 n (nI lo) (nI hi) (nI (K / Nat.gcd T K)).toInt64 (nI (T / Nat.gcd T K)).toInt64 a10 a12 a14 (nI f) rd1 rd2 rd3 σ = some (1, σ') := by
  obtain ⟨⟨t0, t1⟩, m1, m2, m3, m5, l1, l2⟩ := id hm
  have mC := sN_mul (X := X) (S := C) (B := 99) (fun k hk => (m1 k hk).2.1) 4 (by omega)
  rw [m2, m5] at mC
  obtain ⟨g1, g2, g3, g4⟩ := gcd_f (t := K) t0
  have lk : K / Nat.gcd T K ≤ K := Nat.div_le_self _ _
  have lt : T / Nat.gcd T K ≤ T := Nat.div_le_self _ _
  generalize K / Nat.gcd T K = kk at *
  generalize T / Nat.gcd T K = tt at *
  intro d
  induction d with
  | zero =>
    intro f n σ a10 a12 a14 hf hn h hs
    match n, hn with
    | n + 1, _ =>
      obtain rfl : f = 4 := by omega
      have i6 : ((nI kk).toInt64).toInt = (kk : Int) := by
        rw [Int32.toInt_toInt64, nI_toInt (by omega)]
      have i8 : ((nI tt).toInt64).toInt = (tt : Int) := by
        rw [Int32.toInt_toInt64, nI_toInt (by omega)]
      have h6 := HV_l2d (a := (nI kk).toInt64) (by rw [i6]; omega)
      have h8 := HV_l2d (a := (nI tt).toInt64) (by rw [i8]; omega)
      rw [i6] at h6
      rw [i8] at h8
      obtain ⟨⟨v1, p1, p2⟩, ⟨v2, p3, p4⟩, ⟨v3, p5, p6⟩, ⟨v4, p7⟩, ⟨v5, p8, p9⟩⟩ := P_sums hm hs g1 g2 g3 h6 h8
      refine ⟨σ, h, kL.rf, ?_⟩
      have n0 : ∀ x : Int32, x ≤ 0 → ¬ 0 < x := fun x hx h9 => by
        rw [fa_le] at hx
        rw [fa_lt] at h9
        omega
      rw [fL_isMixed_c197_s, if_pos (by decide), xnn_t (HV_nn p1), xl_t, xnn_t (HV_nn p1), xl_t, if_neg (n0 _ p2), xnn_t (HV_nn p3), xl_t, if_neg p4, xnn_t (HV_nn p5), xl_t, if_neg p6, xnn_t (HV_nn p7), xl_t, xnn_t (HV_nn p8), xl_t, xnn_t (HV_nn p8), xl_t, if_pos p9]
      exact P_c368 hF h1 h2 h3 l1 l2 (by omega) (by omega) hno σ
  | succ d ih =>
    intro f n σ a10 a12 a14 hf hn h hs
    match n, hn with
    | n + 1, hn =>
      have f4 : f < 4 := by omega
      obtain ⟨s1, c1, p1, x1, x2⟩ := m1 f f4
      obtain ⟨σ1, q1, k1, e1⟩ := xco_XR (σ := σ) (X_mixShareV h hI 0 g f4 hM) rfl
      have q1 : RX σ1 (H, s, tx) := q1
      obtain ⟨σ2, q2, k2, e2⟩ := xco_XR (σ := σ1) (X_mixShareV q1 hI 1 g f4 hM) rfl
      have q2 : RX σ2 (H, s, tx) := q2
      rw [hX f f4, hT, lowT_0] at e1
      rw [hX f f4, hT, lowT_1] at e2
      obtain ⟨z, z1, z2, z3, z4⟩ := P_shr (X := X f) t0 t1 x2
      obtain ⟨v, w, v1, w1, zw⟩ := P_cap (X := X f) (P := P f) t0 p1 x1 z1 z3
      obtain ⟨⟨b1, r1⟩, ⟨b2, r2⟩, ⟨b3, r3⟩, ⟨b4, r4⟩, ⟨b5, r5⟩, hs'⟩ := SD_step hm f4 hs z1 z2 z3 z4
      obtain ⟨σ3, q3, k3, e3⟩ := ih (f + 1) n σ2 _ _ _ (by omega) (by omega) q2 hs'
      refine ⟨σ3, q3, (k1.tr k2).tr k3, ?_⟩
      rw [fL_isMixed_c197_s, if_neg (show ¬ (4 : Int32) ≤ nI f from nI_ge (b := 4) (by omega) (by decide)), e1, e2, xnn_t (HV_nn z1), xl_t, if_neg (cg_ge z1 HV_0 z2), xrs_n f4 (by decide), h3 f f4, xnn_t (HV_nn v1), xl_t, xnn_t (HV_nn w1), xl_t, if_pos (cl_le z1 w1 zw).1, xnn_t (HV_nn r1), xl_t, xrs_n f4 (by decide), h1 f f4, xnn_t (HV_nn r2), xl_t, xnn_t (HV_nn r3), xl_t, xrs_n f4 (by decide), h2 f f4, xnn_t (HV_nn r4), xl_t, xnn_t (HV_nn r5), xl_t, xl_t, ← nI_succ]
      exact e3
theorem sN_4 (g : Nat → Nat) : sN g 4 = g 0 + g 1 + g 2 + g 3 := by
  show 0 + g 0 + g 1 + g 2 + g 3 = _
  rw [Nat.zero_add]
/-- the best mix, in whole numbers -/
theorem MXd_of {s : sS} {S C P : Nat → Nat} {lo hi : Nat} (hF : FM s S C P) (hlo : lo ≤ 200) (hhi : hi ≤ 200) {b : Cd} (hf : feas s lo hi b) (hb : b.2 ≤ 200) : MXd S C P (fun f => (b.1 f).toNat) (100 * b.2).toNat lo hi (keyC s b 0).toNat ∧ keyC s b 0 = ((keyC s b 0).toNat : Int) := by
  obtain ⟨h1, h2, h3, h4, h5⟩ := hf
  have f0 := hF 0 (by omega)
  have f1 := hF 1 (by omega)
  have f2 := hF 2 (by omega)
  have f3 := hF 3 (by omega)
  have b0 := (h2 0 (by omega)).1
  have b1 := (h2 1 (by omega)).1
  have b2 := (h2 2 (by omega)).1
  have b3 := (h2 3 (by omega)).1
  have eX : ∀ f, f < 4 → (((b.1 f).toNat : Nat) : Int) = b.1 f := fun f hf4 => by
    have := (h2 f hf4).1
    omega
  have sumE : ∀ (w : Nat → Int) (V : Nat → Nat), (∀ f, f < 4 → w f = (V f : Int)) → W4 w b.1 = ((sN (fun k => (b.1 k).toNat * V k) 4 : Nat) : Int) := by
    intro w V hw
    rw [W4_e, sN_4, hw 0 (by omega), hw 1 (by omega), hw 2 (by omega), hw 3 (by omega), Int.natCast_add, Int.natCast_add, Int.natCast_add, Int.natCast_mul, Int.natCast_mul, Int.natCast_mul, Int.natCast_mul, eX 0 (by omega), eX 1 (by omega), eX 2 (by omega), eX 3 (by omega)]
  have eS := sumE (stI s) S (fun f hf4 => (hF f hf4).1)
  have eC := sumE (ctI s) C (fun f hf4 => (hF f hf4).2.1)
  have h4 : 100 * (lo : Int) * b.2 ≤ W4 (stI s) b.1 := h4
  have h5 : W4 (stI s) b.1 ≤ 100 * (hi : Int) * b.2 := h5
  have eK : keyC s b 0 = W4 (ctI s) b.1 := rfl
  have eT : (((100 * b.2).toNat : Nat) : Int) = 100 * b.2 := by omega
  refine ⟨⟨⟨by omega, by omega⟩, fun f hf4 => ?_, ?_, ⟨?_, ?_⟩, ?_, hlo, hhi⟩, by rw [eK, eC]; omega⟩
  · obtain ⟨x1, x2⟩ := h2 f hf4
    obtain ⟨y1, y2, y3, y4, y5, y6⟩ := hF f hf4
    rw [y3] at x2
    have p : (P f : Int) * b.2 ≤ 100 * b.2 := Int.mul_le_mul_of_nonneg_right (by omega) (Int.le_of_lt h1)
    refine ⟨y4, y5, y6, ?_, by show (b.1 f).toNat ≤ _; omega⟩
    have : ((100 * (b.1 f).toNat : Nat) : Int) ≤ ((P f * (100 * b.2).toNat : Nat) : Int) := by
      rw [Int.natCast_mul, Int.natCast_mul, eX f hf4, eT, show (P f : Int) * (100 * b.2) = 100 * ((P f : Int) * b.2) by grind]
      omega
    show 100 * (b.1 f).toNat ≤ P f * (100 * b.2).toNat
    omega
  · have e : sumI b.1 4 = 100 * b.2 := h3
    have e2 : sumI b.1 4 = 0 + b.1 0 + b.1 1 + b.1 2 + b.1 3 := rfl
    rw [sN_4]
    show (b.1 0).toNat + (b.1 1).toNat + (b.1 2).toNat + (b.1 3).toNat = _
    omega
  · have : ((lo * (100 * b.2).toNat : Nat) : Int) ≤ ((sN (fun k => (b.1 k).toNat * S k) 4 : Nat) : Int) := by
      rw [← eS, Int.natCast_mul, eT, show (lo : Int) * (100 * b.2) = 100 * (lo : Int) * b.2 by grind]
      exact h4
    show lo * (100 * b.2).toNat ≤ sN (fun k => (b.1 k).toNat * S k) 4
    omega
  · have : ((sN (fun k => (b.1 k).toNat * S k) 4 : Nat) : Int) ≤ ((hi * (100 * b.2).toNat : Nat) : Int) := by
      rw [← eS, Int.natCast_mul, eT, show (hi : Int) * (100 * b.2) = 100 * (hi : Int) * b.2 by grind]
      exact h5
    show sN (fun k => (b.1 k).toNat * S k) 4 ≤ hi * (100 * b.2).toNat
    omega
  · rw [eK, eC]
    show sN (fun k => (b.1 k).toNat * C k) 4 = _
    omega
/-- no mix by tenths costs less, in whole numbers -/
theorem no_less {s : sS} {S C P : Nat → Nat} {lo hi : Nat} (hF : FM s S C P) {b : Cd} (hM : Mn s lo hi (TC s lo hi) (some b)) {T K : Nat} (t0 : 0 < T) (hT : (100 * b.2).toNat = T) (hK : keyC s b 0 = (K : Int)) : ∀ a c d e, a + c + d + e = 10 → feas s lo hi (grd a c d e, 1) → 10 * (K / Nat.gcd T K) ≤ sN4 C a c d e * (T / Nat.gcd T K) := by
  intro a c d e hs hf
  have h := mix_least hM hf
  obtain ⟨g1, g2, g3, g4⟩ := gcd_f (t := K) t0
  have b0 := hM.2.1.1
  have f0 := hF 0 (by omega)
  have f1 := hF 1 (by omega)
  have f2 := hF 2 (by omega)
  have f3 := hF 3 (by omega)
  have ek : keyC s (grd a c d e, 1) 0 = 10 * ((sN4 C a c d e : Nat) : Int) := by
    have e1 := grd_W (ctI s) a c d e
    rw [f0.2.1, f1.2.1, f2.2.1, f3.2.1] at e1
    have e2 : ((sN4 C a c d e : Nat) : Int) = (a : Int) * (C 0 : Int) + (c : Int) * (C 1 : Int) + (d : Int) * (C 2 : Int) + (e : Int) * (C 3 : Int) := by
      unfold sN4
      omega
    rw [e2]
    exact e1
  have h : keyC s b 0 * 1 ≤ keyC s (grd a c d e, 1) 0 * b.2 := h
  rw [hK, ek] at h
  have eT : (T : Int) = 100 * b.2 := by omega
  have h2 : ((10 * K : Nat) : Int) ≤ ((sN4 C a c d e * T : Nat) : Int) := by
    rw [Int.natCast_mul, Int.natCast_mul, eT, show ((sN4 C a c d e : Nat) : Int) * (100 * b.2) = 10 * (10 * ((sN4 C a c d e : Nat) : Int) * b.2) by grind]
    omega
  have h3 : 10 * (K / Nat.gcd T K) * Nat.gcd T K ≤ sN4 C a c d e * (T / Nat.gcd T K) * Nat.gcd T K := by
    rw [Nat.mul_assoc, Nat.mul_assoc, g2, g3]
    omega
  exact Nat.le_of_mul_le_mul_right h3 g1
