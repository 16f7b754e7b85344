/-! ===== THE CART'S WAY: one that is told ===== -/
theorem div_neg10 {r : Int32} (h : r.toInt < 0) (h2 : 0 ≤ (r - r / 10 * 10).toInt) : (r / 10).toInt < 0 := by
  have hl := r.le_toInt
  obtain ⟨m, hm⟩ : ∃ m : Int, r.toInt = -m := ⟨-r.toInt, by omega⟩
  have e : (r / 10).toInt = -(m / 10) := by
    have e10 : (10 : Int32).toInt = 10 := by decide
    rw [Int32.toInt_div, e10, hm, Int.neg_tdiv, Int.tdiv_eq_ediv_of_nonneg (by omega)]
    exact Int.bmod_eq_of_le (by omega) (by omega)
  by_cases c : (r / 10).toInt < 0
  · exact c
  · exfalso
    have z : r / 10 = 0 := by
      rw [fa_eq, e]
      show _ = (0 : Int)
      omega
    rw [z, show (0 : Int32) * 10 = 0 from rfl, Int32.sub_zero] at h2
    omega
def cV (V : Nat) : Nat := V % 2 + V / 2 % 2 + V / 4 % 2 + V / 8 % 2 + V / 16 % 2 + V / 32 % 2 + V / 64 % 2
theorem cV_o : ∀ V, V < 128 → ∀ a, a < 7 → cV (oV V a) = cV V + (if bV V a = true then 0 else 1) := by decide +kernel
theorem oV_lt : ∀ n, n < 8 → ∀ V, V < 2 ^ n → ∀ a, a < n → oV V a < 2 ^ n := by decide +kernel
theorem cV_full : ∀ n, n < 8 → cV (2 ^ n - 1) = n ∧ 2 ^ n ≤ 128 ∧ ((1 : Int32) <<< ((nI n) &&& 31)) - 1 = nI (2 ^ n - 1) ∧ ∀ V, V < 2 ^ n → cV V = n → V = 2 ^ n - 1 := by decide +kernel
theorem or_zero7 : ∀ V, V < 128 → nI V ||| 0 = nI V := by decide +kernel
theorem X_walk {N : Nat} {σ : xSt} {H : List sS} {s : sS} {tx : (Nat → Int32) × Nat} (h : RX σ (H, s, tx)) (hI : Inv N s) {l : List Nat} (hl : l.length = cS s) (hk : ∀ k, k < l.length → gl l k < cS s ∧ σ 45 k = nI (gl l k)) : ∀ (d k n : Nat) (m : Int32) (f : Nat) (x y : Int), k + d = l.length → d < n → bt m 0 700 → fco σ f x y → ∃ r, fX1_walk_c8 n m (nI f) (nI k) σ = some (r, σ) ∧ (runF s x y m.toInt (l.drop k) = none → r = -1) ∧ ∀ e, runF s x y m.toInt (l.drop k) = some e → r.toInt = e := by
  have h7 := hI.caps.2.2.1
  have e7 : s 7 = nI (cS s) := hI.caps.2.2.2.2.2.2.2.1
  have a5 : σ 38 5 = nI (cS s) := (X_at_nshop h).trans e7
  intro d
  induction d with
  | zero =>
    intro k n m f x y hkd hn hm hf
    obtain ⟨n, rfl⟩ : ∃ z, n = z + 1 := ⟨n - 1, by omega⟩
    obtain rfl : k = l.length := by omega
    obtain ⟨r, e1, e2⟩ := X_minutes hf (fco_home h)
    have f4 := hf.2.2.2.1
    have f5 := hf.2.2.2.2
    unfold bt at hm
    have e3 : r.toInt = x + y := by
      rw [e2]
      unfold ab
      rw [if_pos (by omega), if_pos (by omega)]
      omega
    rw [fX1_walk_c8_s, a5, if_pos (nI_le (by omega) (by omega)), show fX1_minutesBetween (nI f) 7 σ = some (r, σ) from e1, xc2_t, List.drop_length]
    refine ⟨_, rfl, fun h9 => (nomatch h9), fun e he => ?_⟩
    have he : some (m.toInt + (x + y)) = some e := he
    cases he
    rw [i32_add (by rw [e3]; omega) (by rw [e3]; omega), e3]
  | succ d ih =>
    intro k n m f x y hkd hn hm hf
    obtain ⟨n, rfl⟩ : ∃ z, n = z + 1 := ⟨n - 1, by omega⟩
    have hkl : k < l.length := by omega
    obtain ⟨g1, g2⟩ := hk k hkl
    have lv := X_leaves h hI g1 hf hm
    rw [gl_drop hkl]
    have er : runF s x y m.toInt (gl l k :: l.drop (k + 1)) = (match leav s (gl l k) x y m.toInt with | none => none | some m' => runF s (sx s (gl l k)) (sy s (gl l k)) m' (l.drop (k + 1))) := rfl
    rw [er, fX1_walk_c8_s, a5, if_neg (nI_ge (by omega) (by omega)), xr_n (by omega) (by decide), g2]
    cases hv : leav s (gl l k) x y m.toInt with
    | none =>
      rw [lv.1 hv, xc2_t, if_pos rfl]
      exact ⟨-1, rfl, fun _ => rfl, fun e he => nomatch he⟩
    | some m' =>
      obtain ⟨r, r1, r2⟩ := lv.2 m' hv
      have lb := leav_b hI g1 hm.1 hv
      rw [r1, xc2_t, if_neg (show ¬ r = -1 from fun h9 => by rw [h9] at r2; have r2 : (-1 : Int) = m' := r2; omega), xr_n (by omega) (by decide), g2, xl_t, nI_1, ← r2]
      exact ih (k + 1) n r (gl l k) _ _ (by omega) (by omega) ⟨by rw [r2]; exact lb.1, by rw [r2]; omega⟩ (fco_shop h hI g1)
def toldR (n : Nat) (σ τ : xSt) : Prop := ∀ k, k < n → ∃ d, d < n ∧ σ 45 k = nI d ∧ τ 11 k = nI d
/-- a row that both tell -/
theorem told_list {n : Nat} {σ τ : xSt} (h : toldR n σ τ) : ∃ l : List Nat, l.length = n ∧ ∀ k, k < n → gl l k < n ∧ σ 45 k = nI (gl l k) ∧ τ 11 k = nI (gl l k) := by
  have main : ∀ m, m ≤ n → ∃ l : List Nat, l.length = m ∧ ∀ k, k < m → gl l k < n ∧ σ 45 k = nI (gl l k) ∧ τ 11 k = nI (gl l k) := by
    intro m
    induction m with
    | zero => intro _; exact ⟨[], rfl, fun k hk => absurd hk (Nat.not_lt_zero k)⟩
    | succ m ih =>
      intro hm
      obtain ⟨l, l1, l2⟩ := ih (by omega)
      obtain ⟨d, d1, d2, d3⟩ := h m (by omega)
      refine ⟨l ++ [d], by rw [List.length_append, List.length_singleton, l1], fun k hk => ?_⟩
      rw [gl_app, l1]
      by_cases c : k < m
      · rw [if_pos c]; exact l2 k c
      · have e : k = m := by omega
        rw [if_neg c, if_pos e, e]; exact ⟨d1, d2, d3⟩
  exact main n (Nat.le_refl n)