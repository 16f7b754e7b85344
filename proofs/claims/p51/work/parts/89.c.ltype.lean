/-! ===== TYPING: eight letters a time ===== -/
def pkN (t : Nat → Nat) (k : Nat) : Nat → Nat
  | 0 => 0
  | w + 1 => pkN t k w * 256 + t (k + w)
theorem pkN_b {t : Nat → Nat} {k : Nat} : ∀ w, (∀ j, j < w → t (k + j) < 256) → pkN t k w < 256 ^ w
  | 0, _ => by show 0 < 1; decide
  | w + 1, h => by
    have h1 := pkN_b w (fun j hj => h j (by omega))
    have h2 := h w (by omega)
    show pkN t k w * 256 + t (k + w) < 256 ^ (w + 1)
    rw [Nat.pow_succ]
    omega
theorem pk_step {m c : Nat} (hm : m < 2 ^ 56) (hc : c < 256) : (lN m <<< (Int32.toInt64 8 &&& 63)) ||| Int32.toInt64 (nI c) = lN (m * 256 + c) := by
  have e1 : (Int32.toInt64 8 &&& 63) = (8 : Int64) := by decide
  have e2 : Int32.toInt64 (nI c) = lN c := nI_l (by omega)
  rw [e1, e2]
  apply Int64.toBitVec_inj.1
  rw [Int64.toBitVec_or, Int64.toBitVec_shiftLeft]
  have e3 : (8 : Int64).toBitVec.smod 64 = 8#64 := by decide
  rw [e3]
  show (BitVec.ofNat 64 m <<< 8#64) ||| BitVec.ofNat 64 c = BitVec.ofNat 64 (m * 256 + c)
  apply BitVec.eq_of_toNat_eq
  have e4 : (8#64).toNat = 8 := rfl
  rw [BitVec.toNat_or, BitVec.shiftLeft_eq', BitVec.toNat_shiftLeft, e4, BitVec.toNat_ofNat, BitVec.toNat_ofNat, BitVec.toNat_ofNat, Nat.mod_eq_of_lt (show m < 2 ^ 64 by omega), Nat.mod_eq_of_lt (show c < 2 ^ 64 by omega), Nat.mod_eq_of_lt (show m * 256 + c < 2 ^ 64 by omega)]
  have e5 : m <<< 8 = m * 256 := by rw [Nat.shiftLeft_eq]
  rw [Nat.mod_eq_of_lt (by rw [e5]; omega), ← Nat.shiftLeft_add_eq_or_of_lt (by omega), e5]
theorem by_low (u : UInt64) : Int64.toInt32 (u.toInt64) &&& 255 = nI (u.toNat % 256) := by
  apply Int32.toBitVec_inj.1
  rw [Int32.toBitVec_and]
  apply BitVec.eq_of_toNat_eq
  rw [BitVec.toNat_and]
  have e1 : (Int64.toInt32 u.toInt64).toBitVec = u.toBitVec.signExtend 32 := rfl
  have e2 : (u.toBitVec.signExtend 32).toNat = u.toNat % 2 ^ 32 := by
    rw [BitVec.signExtend_eq_setWidth_of_le _ (by decide), BitVec.toNat_setWidth]
    rfl
  rw [e1, e2]
  have e3 : (255 : Int32).toBitVec.toNat = 2 ^ 8 - 1 := rfl
  rw [e3, Nat.and_two_pow_sub_one_eq_mod]
  have e4 : (nI (u.toNat % 256)).toBitVec.toNat = u.toNat % 256 := by
    show (BitVec.ofNat 32 (u.toNat % 256)).toNat = _
    rw [BitVec.toNat_ofNat]
    omega
  rw [e4]
  omega
theorem byS_at {m i : Nat} (hm : m < 2 ^ 64) (hi : i < 8) : byS (lN m) i = nI (m / 256 ^ (7 - i) % 256) := by
  unfold byS
  have e0 : Int64.toUInt64 (lN m) = UInt64.ofNat m := rfl
  rw [e0]
  have key : ∀ s : UInt64, s.toNat = 8 * (7 - i) → (UInt64.ofNat m >>> s).toNat = m / 256 ^ (7 - i) := by
    intro s hs
    rw [UInt64.toNat_shiftRight, hs, UInt64.toNat_ofNat', Nat.mod_eq_of_lt (show m < 2 ^ 64 from hm), Nat.mod_eq_of_lt (show 8 * (7 - i) < 64 by omega), Nat.shiftRight_eq_div_pow, Nat.pow_mul]
  rw [by_low, key]
  rcases (show i = 0 ∨ i = 1 ∨ i = 2 ∨ i = 3 ∨ i = 4 ∨ i = 5 ∨ i = 6 ∨ i = 7 by omega) with rfl | rfl | rfl | rfl | rfl | rfl | rfl | rfl <;> decide
theorem pkN_dig {t : Nat → Nat} {k : Nat} : ∀ w, (∀ j, j < w → t (k + j) < 256) → ∀ e, e < w → pkN t k w / 256 ^ e % 256 = t (k + (w - 1 - e))
  | 0, _, e, he => absurd he (Nat.not_lt_zero e)
  | w + 1, h, e, he => by
    have h2 := h w (by omega)
    show (pkN t k w * 256 + t (k + w)) / 256 ^ e % 256 = _
    match e, he with
    | 0, _ => rw [Nat.pow_zero, Nat.div_one, show k + (w + 1 - 1 - 0) = k + w by omega]; omega
    | e + 1, he =>
      have e1 : (pkN t k w * 256 + t (k + w)) / 256 ^ (e + 1) = pkN t k w / 256 ^ e := by
        rw [Nat.pow_succ, Nat.mul_comm (256 ^ e) 256, ← Nat.div_div_eq_div_mul, show (pkN t k w * 256 + t (k + w)) / 256 = pkN t k w by omega]
      rw [e1, pkN_dig w (fun j hj => h j (by omega)) e (by omega)]
      congr 2
      omega
theorem pkN_zero {t : Nat → Nat} {k w e : Nat} (h : ∀ j, j < w → t (k + j) < 256) (he : w ≤ e) : pkN t k w / 256 ^ e % 256 = 0 := by
  have h1 := pkN_b w h
  have h2 : 256 ^ w ≤ 256 ^ e := Nat.pow_le_pow_right (by decide) he
  rw [Nat.div_eq_of_lt (by omega)]
theorem byS_pk {t : Nat → Nat} {k w i : Nat} (hw : w ≤ 8) (h : ∀ j, j < w → t (k + j) < 256) (hi : i < 8) : byS (lN (pkN t k w)) i = nI (if i < 8 - w then 0 else t (k + (i - (8 - w)))) := by
  have h1 := pkN_b w h
  have h2 : 256 ^ w ≤ 256 ^ 8 := Nat.pow_le_pow_right (by decide) hw
  have h3 : (256 : Nat) ^ 8 = 2 ^ 64 := by decide
  rw [byS_at (by omega) hi]
  by_cases c : i < 8 - w
  · rw [if_pos c, pkN_zero h (by omega)]
  · rw [if_neg c, pkN_dig w h _ (by omega)]
    congr 3
    omega
theorem tp_pk {t : Nat → Nat} {k w : Nat} (hw : w ≤ 8) (h : ∀ j, j < w → 32 ≤ t (k + j) ∧ t (k + j) ≤ 126) (tx : (Nat → Int32) × Nat) : ∀ i, i ≤ 8 → (tpN (lN (pkN t k w)) tx i).2 = tx.2 + (i - (8 - w)) ∧ (∀ q, q < tx.2 → (tpN (lN (pkN t k w)) tx i).1 q = tx.1 q) ∧ (∀ j, j < i - (8 - w) → (tpN (lN (pkN t k w)) tx i).1 (tx.2 + j) = nI (t (k + j))) ∧ cnN (lN (pkN t k w)) i = i - (8 - w) ∧ okN (lN (pkN t k w)) i
  | 0, _ => ⟨by show tx.2 = _; omega, fun _ _ => rfl, fun j hj => by omega, by show 0 = _; omega, trivial⟩
  | i + 1, hi => by
    obtain ⟨h1, h2, h3, h4, h5⟩ := tp_pk hw h tx i (by omega)
    have hb := byS_pk (t := t) (k := k) (w := w) (i := i) hw (fun j hj => by have := h j hj; omega) (by omega)
    by_cases c : i < 8 - w
    · rw [if_pos c] at hb
      have hb : byS (lN (pkN t k w)) i = 0 := hb
      have e1 : tpN (lN (pkN t k w)) tx (i + 1) = tpN (lN (pkN t k w)) tx i := if_pos hb
      have e2 : cnN (lN (pkN t k w)) (i + 1) = cnN (lN (pkN t k w)) i := if_pos hb
      rw [e1, e2]
      exact ⟨by omega, h2, fun j hj => by omega, by omega, h5, Or.inl hb⟩
    · rw [if_neg c] at hb
      have hl := h (i - (8 - w)) (by omega)
      have hne : ¬ byS (lN (pkN t k w)) i = 0 := by
        rw [hb]
        exact ch_ne (d := 0) (by omega) (by decide) (by omega)
      have e1 : tpN (lN (pkN t k w)) tx (i + 1) = (upd (tpN (lN (pkN t k w)) tx i).1 (tpN (lN (pkN t k w)) tx i).2 (byS (lN (pkN t k w)) i), (tpN (lN (pkN t k w)) tx i).2 + 1) := if_neg hne
      have e2 : cnN (lN (pkN t k w)) (i + 1) = cnN (lN (pkN t k w)) i + 1 := if_neg hne
      rw [e1, e2]
      refine ⟨by show (tpN (lN (pkN t k w)) tx i).2 + 1 = _; omega, fun q hq => ?_, fun j hj => ?_, by omega, h5, Or.inr ?_⟩
      · show upd _ _ _ q = _
        rw [pk_un (by omega)]
        exact h2 q hq
      · show upd _ _ _ (tx.2 + j) = _
        by_cases c2 : j = i - (8 - w)
        · rw [show tx.2 + j = (tpN (lN (pkN t k w)) tx i).2 by omega, pk_us, hb, c2]
        · rw [pk_un (by omega)]
          exact h3 j (by omega)
      · rw [hb]
        exact ⟨nI_le (a := 32) hl.1 (by omega), nI_le (b := 126) hl.2 (by decide)⟩
theorem P_type1 {σ : xSt} {H : List sS} {s : sS} {tx : (Nat → Int32) × Nat} (h : RX σ (H, s, tx)) {t : Nat → Nat} {k w : Nat} (hw : w ≤ 8) (ht : ∀ j, j < w → 32 ≤ t (k + j) ∧ t (k + j) ≤ 126) (h80 : tx.2 + w ≤ 80) : ∃ σ' tx', RX σ' (H, s, tx') ∧ kL σ σ' ∧ tx'.2 = tx.2 + w ∧ (∀ q, q < tx.2 → tx'.1 q = tx.1 q) ∧ (∀ j, j < w → tx'.1 (tx.2 + j) = nI (t (k + j))) ∧ ∃ r, ∀ {β : Type} (K : Int32 → xSt → Option β), xco (fX11_type (lN (pkN t k w)) σ) σ K = K r σ' := by
  obtain ⟨h1, h2, h3, h4, h5⟩ := tp_pk hw ht tx 8 (Nat.le_refl 8)
  have hX := ((X_type h (lN (pkN t k w))).2 h5).2 (by rw [h4]; omega)
  obtain ⟨σ', q1, q2, q3⟩ := xco_XR (σ := σ) hX rfl
  exact ⟨σ', tpN (lN (pkN t k w)) tx 8, q1, q2, by rw [h1]; omega, h2, fun j hj => h3 j (by omega), _, q3⟩
theorem P_typeI {t : Nat → Nat} {n : Nat} (hn : n ≤ 80) (ht : ∀ j, j < n → 32 ≤ t j ∧ t j ≤ 126) {k2 : Int32 → xSt → Option (Int32 × xSt)} {σ : xSt} {k : Nat} (hk : k < n) : ∀ (d w f : Nat), w + d = (if k + 8 ≤ n then 8 else n - k) → d < f → fL_type_c15 n t k2 f (nI k) (lN (pkN t k w)) (nI (k + w)) σ = fL_type_c52 n t k2 (nI k) (lN (pkN t k (if k + 8 ≤ n then 8 else n - k))) σ := by
  intro d
  induction d with
  | zero =>
    intro w f hwd hf
    match f, hf with
    | f + 1, _ =>
      rw [fL_type_c15_s]
      have e8 : nI k + 8 = nI (k + 8) := nI_add k 8
      have hw8 : w ≤ 8 := by split at hwd <;> omega
      by_cases c : n ≤ k + w
      · rw [if_pos (nI_le c (by omega)), show w = _ from hwd]
      · rw [if_neg (nI_ge (by omega) (by omega)), e8, if_pos (nI_le (by split at hwd <;> omega) (by omega)), show w = _ from hwd]
  | succ d ih =>
    intro w f hwd hf
    match f, hf with
    | f + 1, hf =>
      have hw8 : w < 8 ∧ k + w < n := by split at hwd <;> omega
      have e8 : nI k + 8 = nI (k + 8) := nI_add k 8
      rw [fL_type_c15_s, if_neg (nI_ge (by omega) (by omega)), e8, if_neg (nI_ge (by omega) (by omega))]
      have hin : xin (nI (k + w)) n = true := xin_n (by omega) (by omega)
      unfold xrs
      rw [if_pos hin, nI_clamp (by omega)]
      unfold xl
      dsimp only
      have hb := pkN_b (t := t) (k := k) w (fun j hj => by have := ht (k + j) (by omega); omega)
      have hb2 : 256 ^ w ≤ 256 ^ 7 := Nat.pow_le_pow_right (by decide) (by omega)
      have hb3 : (256 : Nat) ^ 7 = 2 ^ 56 := by decide
      have hc := ht (k + w) (by omega)
      rw [pk_step (by omega) (by omega), ← nI_succ]
      exact ih (w + 1) f (by omega) (by omega)
