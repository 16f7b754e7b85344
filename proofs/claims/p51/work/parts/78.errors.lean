/-! ===== ERRORS ===== -/
theorem s32_ofI (f : Nat → Int32) : ∀ n, s32 f n = Int32.ofInt (sumI (fun k => (f k).toInt) n)
  | 0 => rfl
  | n + 1 => by
    show s32 f n + f n = Int32.ofInt (sumI (fun k => (f k).toInt) n + (f n).toInt)
    rw [Int32.ofInt_add, s32_ofI f n, Int32.ofInt_toInt]
theorem bkDg (s : sS) : bkO s 0 + bkO s 1 + bkO s 2 = Int32.ofInt (sumI (inDg s) (cD s)) := by
  have main : ∀ n, s32 (fun k => if s (163 + k) = 0 then s (123 + k) * s (19 + drc s k) else 0) n + s32 (fun k => if s (163 + k) = 1 then s (123 + k) * s (19 + drc s k) else 0) n + s32 (fun k => if s (163 + k) = 2 then s (123 + k) * s (19 + drc s k) else 0) n = Int32.ofInt (sumI (inDg s) n) := by
    intro n
    induction n with
    | zero => rfl
    | succ n ih =>
      show (s32 (fun k => if s (163 + k) = 0 then s (123 + k) * s (19 + drc s k) else 0) n + (if s (163 + n) = 0 then s (123 + n) * s (19 + drc s n) else 0)) + (s32 (fun k => if s (163 + k) = 1 then s (123 + k) * s (19 + drc s k) else 0) n + (if s (163 + n) = 1 then s (123 + n) * s (19 + drc s n) else 0)) + (s32 (fun k => if s (163 + k) = 2 then s (123 + k) * s (19 + drc s k) else 0) n + (if s (163 + n) = 2 then s (123 + n) * s (19 + drc s n) else 0)) = Int32.ofInt (sumI (inDg s) n + inDg s n)
      rw [Int32.ofInt_add, ← ih]
      generalize s32 (fun k => if s (163 + k) = 0 then s (123 + k) * s (19 + drc s k) else 0) n = A
      generalize s32 (fun k => if s (163 + k) = 1 then s (123 + k) * s (19 + drc s k) else 0) n = B
      generalize s32 (fun k => if s (163 + k) = 2 then s (123 + k) * s (19 + drc s k) else 0) n = C
      have hd : Int32.ofInt (dgr s n) = s (123 + n) * s (19 + drc s n) := by
        unfold dgr
        rw [Int32.ofInt_mul, Int32.ofInt_toInt, Int32.ofInt_toInt]
        rfl
      have z : Int32.ofInt 0 = 0 := rfl
      have h01 : ¬ (0 : Int32) = 1 := by decide
      have h02 : ¬ (0 : Int32) = 2 := by decide
      have h12 : ¬ (1 : Int32) = 2 := by decide
      have h10 : ¬ (1 : Int32) = 0 := by decide
      have h20 : ¬ (2 : Int32) = 0 := by decide
      have h21 : ¬ (2 : Int32) = 1 := by decide
      unfold inDg
      by_cases c0 : s (163 + n) = 0
      · rw [c0, if_pos rfl, if_neg h01, if_neg h02, if_pos (Or.inl rfl), hd]
        ac_rfl
      · by_cases c1 : s (163 + n) = 1
        · rw [c1, if_neg h10, if_pos rfl, if_neg h12, if_pos (Or.inr (Or.inl rfl)), hd]
          ac_rfl
        · by_cases c2 : s (163 + n) = 2
          · rw [c2, if_neg h20, if_neg h21, if_pos rfl, if_pos (Or.inr (Or.inr rfl)), hd]
            ac_rfl
          · rw [if_neg c0, if_neg c1, if_neg c2, if_neg (fun h9 => by rcases h9 with h9 | h9 | h9 <;> contradiction), z]
            ac_rfl
  exact main (cD s)
theorem bkBr (s : sS) : bkB s = Int32.ofInt (sumI (fun k => (s (223 + k)).toInt * (s (19 + k / 4)).toInt) (4 * cR s)) := by
  have main : ∀ n, s32 (fun r => brs s r 0 * s (19 + r)) n = Int32.ofInt (sumI (fun k => (s (223 + k)).toInt * (s (19 + k / 4)).toInt) (4 * n)) := by
    intro n
    induction n with
    | zero => rfl
    | succ n ih =>
      have e : sumI (fun k => (s (223 + k)).toInt * (s (19 + k / 4)).toInt) (4 * (n + 1)) = sumI (fun k => (s (223 + k)).toInt * (s (19 + k / 4)).toInt) (4 * n) + (s (223 + (4 * n))).toInt * (s (19 + (4 * n) / 4)).toInt + (s (223 + (4 * n + 1))).toInt * (s (19 + (4 * n + 1) / 4)).toInt + (s (223 + (4 * n + 2))).toInt * (s (19 + (4 * n + 2) / 4)).toInt + (s (223 + (4 * n + 3))).toInt * (s (19 + (4 * n + 3) / 4)).toInt := rfl
      rw [e, show 4 * n / 4 = n by omega, show (4 * n + 1) / 4 = n by omega, show (4 * n + 2) / 4 = n by omega, show (4 * n + 3) / 4 = n by omega]
      rw [Int32.ofInt_add, Int32.ofInt_add, Int32.ofInt_add, Int32.ofInt_add, ← ih, Int32.ofInt_mul, Int32.ofInt_mul, Int32.ofInt_mul, Int32.ofInt_mul, Int32.ofInt_toInt, Int32.ofInt_toInt, Int32.ofInt_toInt, Int32.ofInt_toInt, Int32.ofInt_toInt]
      show s32 (fun r => brs s r 0 * s (19 + r)) n + brs s n 0 * s (19 + n) = _
      have eb : brs s n 0 = 0 + s (223 + (4 * n + (0 + 0))) + s (223 + (4 * n + (0 + 1))) + s (223 + (4 * n + (0 + 2))) + s (223 + (4 * n + (0 + 3))) := rfl
      rw [eb, Nat.zero_add, Nat.zero_add, Nat.zero_add, Nat.zero_add, Nat.add_zero, Int32.zero_add, Int32.add_mul, Int32.add_mul, Int32.add_mul]
      ac_rfl
  exact main (cR s)
theorem X_told {N : Nat} {σ : xSt} {H : List sS} {s : sS} {tx : (Nat → Int32) × Nat} (h : RX σ (H, s, tx)) (hI : Inv N s) : fX11_gramsToldOf σ = some (s 8, σ) := by
  have hc := hI.caps
  have a9 : σ 2 2 = s 9 := X_at_sold h
  have a10 : σ 2 3 = s 10 := X_at_gone h
  unfold fX11_gramsToldOf
  rw [X_allGrams h hc, xc2_t, X_gramsIn h hc, xc2_t, X_gramsIn h hc, xc2_t, X_gramsIn h hc, xc2_t, X_gramsInBreads h hc, xc2_t, a9, a10]
  have e : s 8 = Int32.ofInt (led s) := by rw [← hI.led.1, Int32.ofInt_toInt]
  have e2 : s 9 + s 10 + bkG s + bkO s 0 + bkO s 1 + bkO s 2 + bkB s = s 9 + s 10 + bkG s + (bkO s 0 + bkO s 1 + bkO s 2) + bkB s := by ac_rfl
  rw [e2, bkDg, bkBr, e]
  unfold led bkG
  rw [s32_ofI, Int32.ofInt_add, Int32.ofInt_add, Int32.ofInt_add, Int32.ofInt_add, Int32.ofInt_toInt, Int32.ofInt_toInt]
theorem X_errors {N : Nat} {σ : xSt} {H : List sS} {s : sS} {tx : (Nat → Int32) × Nat} (h : RX σ (H, s, tx)) (hI : Inv N s) : XRi (fX11_errors σ) (0, (H, s, tx)) := by
  have a8 : σ 2 1 = s 8 := X_at_came h
  obtain ⟨σ1, e1, h1⟩ := X_noVain h hI
  obtain ⟨σ2, e2, h2, f2⟩ := X_noEarlier h1 hI
  unfold fX11_errors fX11_errors_c19 fX11_errors_c32
  rw [X_told h hI, xc2_t, a8, if_pos rfl, e1, xc2_t, if_pos rfl, e2, xc2_t, if_pos rfl]
  exact ⟨σ2, rfl, h2⟩