/-! ===== THE CLASS: its page (what an act keeps), remember, bringBack ===== -/
theorem xs_n {β : Type} {σ : xSt} {q n i : Nat} {v : Int32} {K : xSt → Option β} (h : i < n) (hm : n < 2147483648) : xs σ q n (nI i) v K = K (xu σ q i v) := by
  rw [xs_t (xin_n h hm), nI_clamp (by omega)]
theorem xr_n {β : Type} {σ : xSt} {q n i : Nat} {K : Int32 → Option β} (h : i < n) (hm : n < 2147483648) : xr σ q n (nI i) K = K (σ q i) := by
  rw [xr_t (xin_n h hm), nI_clamp (by omega)]
theorem xrs_n {β : Type} {f : Nat → Int32} {n i : Nat} {K : Int32 → Option β} (h : i < n) (hm : n < 2147483648) : xrs f n (nI i) K = K (f i) := by
  rw [xrs_t (xin_n h hm), nI_clamp (by omega)]
/-- what the page of the state σ holds at j -/
def xpg (σ : xSt) (j : Nat) : Int32 := if j < 8 then σ 3 (j - 0) else if j = 8 then σ 2 1 else if j = 9 then σ 2 2 else if j = 10 then σ 2 3 else if j = 11 then σ 4 7 else if j < 18 then σ 10 (j - 12) else if j < 66 then σ 11 (j - 18) else if j = 66 then σ 12 7 else if j < 87 then σ 16 (j - 67) else if j < 107 then σ 17 (j - 87) else if j < 127 then σ 18 (j - 107) else if j < 147 then σ 19 (j - 127) else if j = 147 then σ 20 0 else if j = 148 then σ 20 1 else if j = 149 then σ 20 2 else if j = 150 then σ 20 3 else if j = 151 then σ 20 4 else if j < 176 then σ 28 (j - 152) else if j < 180 then σ 30 (j - 176) else if j < 184 then σ 31 (j - 180) else if j < 188 then σ 32 (j - 184) else if j < 194 then σ 37 (j - 188) else σ 38 5
theorem xpg_cong {σ σ' : xSt} (h : ∀ q, q ≠ 1 → σ' q = σ q) (j : Nat) : xpg σ' j = xpg σ j := by
  unfold xpg
  rw [h 2 (by decide), h 3 (by decide), h 4 (by decide), h 10 (by decide), h 11 (by decide), h 12 (by decide), h 16 (by decide), h 17 (by decide), h 18 (by decide), h 19 (by decide), h 20 (by decide), h 28 (by decide), h 30 (by decide), h 31 (by decide), h 32 (by decide), h 37 (by decide), h 38 (by decide)]
theorem X10_save {σ : xSt} {P : Nat} (hP : P + 195 ≤ 1560) : ∃ σ', fX10_save (nI (P)) σ = some (nI (P + 11), σ') ∧ (∀ q, q ≠ 1 → σ' q = σ q) ∧ ∀ k, σ' 1 k = if P ≤ k ∧ k < P + 11 then xpg σ (k - P) else σ 1 k := by
  refine ⟨(xu (xu (xu (xcp σ 3 1 0 P 8) 1 (P + 8) (σ 2 1)) 1 (P + 9) (σ 2 2)) 1 (P + 10) (σ 2 3)), ?_, fun q hq => ?_, fun k => ?_⟩
  · unfold fX10_save
    simp (disch := omega) only [fa_lit, nI_add, xcpy_n, xs_n, Nat.add_assoc, Nat.reduceAdd, Nat.add_zero, xu_ne _ _ _ (show (2 : Nat) ≠ 1 by decide), xcp_ne _ (show (2 : Nat) ≠ 1 by decide), xu_ne _ _ _ (show (3 : Nat) ≠ 1 by decide), xcp_ne _ (show (3 : Nat) ≠ 1 by decide)]
  · simp only [xu_ne _ _ _ hq, xcp_ne _ hq]
  · by_cases hk : P ≤ k ∧ k < P + 11
    · rw [if_pos hk]
      obtain ⟨j, rfl⟩ : ∃ j, k = P + j := ⟨k - P, by omega⟩
      rw [show P + j - P = j by omega]
      rcases (show (0 ≤ j ∧ j < 8) ∨ (8 ≤ j ∧ j < 9) ∨ (9 ≤ j ∧ j < 10) ∨ (10 ≤ j ∧ j < 11) by omega) with h9 | h9 | h9 | h9
      all_goals (simp (disch := omega) only [xpg, xu_at, xcp_at, xu_ne, xcp_ne, va_cpy, upd, if_pos, if_neg] <;> (refine congrArg _ ?_; omega))
    · rw [if_neg hk]
      simp (disch := omega) only [xu_at, xcp_at, xu_ne, xcp_ne, va_cpy, upd, if_pos, if_neg]
theorem X8_save {σ : xSt} {P : Nat} (hP : P + 195 ≤ 1560) : ∃ σ', fX8_save (nI (P + 11)) σ = some (nI (P + 66), σ') ∧ (∀ q, q ≠ 1 → σ' q = σ q) ∧ ∀ k, σ' 1 k = if P + 11 ≤ k ∧ k < P + 66 then xpg σ (k - P) else σ 1 k := by
  refine ⟨(xcp (xcp (xu σ 1 (P + 11) (σ 4 7)) 10 1 0 (P + 12) 6) 11 1 0 (P + 18) 48), ?_, fun q hq => ?_, fun k => ?_⟩
  · unfold fX8_save
    simp (disch := omega) only [fa_lit, nI_add, xcpy_n, xs_n, Nat.add_assoc, Nat.reduceAdd, Nat.add_zero, xu_ne _ _ _ (show (4 : Nat) ≠ 1 by decide), xcp_ne _ (show (4 : Nat) ≠ 1 by decide), xu_ne _ _ _ (show (10 : Nat) ≠ 1 by decide), xcp_ne _ (show (10 : Nat) ≠ 1 by decide), xu_ne _ _ _ (show (11 : Nat) ≠ 1 by decide), xcp_ne _ (show (11 : Nat) ≠ 1 by decide)]
  · simp only [xu_ne _ _ _ hq, xcp_ne _ hq]
  · by_cases hk : P + 11 ≤ k ∧ k < P + 66
    · rw [if_pos hk]
      obtain ⟨j, rfl⟩ : ∃ j, k = P + j := ⟨k - P, by omega⟩
      rw [show P + j - P = j by omega]
      rcases (show (11 ≤ j ∧ j < 12) ∨ (12 ≤ j ∧ j < 18) ∨ (18 ≤ j ∧ j < 66) by omega) with h9 | h9 | h9
      all_goals (simp (disch := omega) only [xpg, xu_at, xcp_at, xu_ne, xcp_ne, va_cpy, upd, if_pos, if_neg] <;> (refine congrArg _ ?_; omega))
    · rw [if_neg hk]
      simp (disch := omega) only [xu_at, xcp_at, xu_ne, xcp_ne, va_cpy, upd, if_pos, if_neg]
theorem X2_save {σ : xSt} {P : Nat} (hP : P + 195 ≤ 1560) : ∃ σ', fX2_save (nI (P + 66)) σ = some (nI (P + 147), σ') ∧ (∀ q, q ≠ 1 → σ' q = σ q) ∧ ∀ k, σ' 1 k = if P + 66 ≤ k ∧ k < P + 147 then xpg σ (k - P) else σ 1 k := by
  refine ⟨(xcp (xcp (xcp (xcp (xu σ 1 (P + 66) (σ 12 7)) 16 1 0 (P + 67) 20) 17 1 0 (P + 87) 20) 18 1 0 (P + 107) 20) 19 1 0 (P + 127) 20), ?_, fun q hq => ?_, fun k => ?_⟩
  · unfold fX2_save
    simp (disch := omega) only [fa_lit, nI_add, xcpy_n, xs_n, Nat.add_assoc, Nat.reduceAdd, Nat.add_zero, xu_ne _ _ _ (show (12 : Nat) ≠ 1 by decide), xcp_ne _ (show (12 : Nat) ≠ 1 by decide), xu_ne _ _ _ (show (16 : Nat) ≠ 1 by decide), xcp_ne _ (show (16 : Nat) ≠ 1 by decide), xu_ne _ _ _ (show (17 : Nat) ≠ 1 by decide), xcp_ne _ (show (17 : Nat) ≠ 1 by decide), xu_ne _ _ _ (show (18 : Nat) ≠ 1 by decide), xcp_ne _ (show (18 : Nat) ≠ 1 by decide), xu_ne _ _ _ (show (19 : Nat) ≠ 1 by decide), xcp_ne _ (show (19 : Nat) ≠ 1 by decide)]
  · simp only [xu_ne _ _ _ hq, xcp_ne _ hq]
  · by_cases hk : P + 66 ≤ k ∧ k < P + 147
    · rw [if_pos hk]
      obtain ⟨j, rfl⟩ : ∃ j, k = P + j := ⟨k - P, by omega⟩
      rw [show P + j - P = j by omega]
      rcases (show (66 ≤ j ∧ j < 67) ∨ (67 ≤ j ∧ j < 87) ∨ (87 ≤ j ∧ j < 107) ∨ (107 ≤ j ∧ j < 127) ∨ (127 ≤ j ∧ j < 147) by omega) with h9 | h9 | h9 | h9 | h9
      all_goals (simp (disch := omega) only [xpg, xu_at, xcp_at, xu_ne, xcp_ne, va_cpy, upd, if_pos, if_neg] <;> (refine congrArg _ ?_; omega))
    · rw [if_neg hk]
      simp (disch := omega) only [xu_at, xcp_at, xu_ne, xcp_ne, va_cpy, upd, if_pos, if_neg]
theorem X5_save {σ : xSt} {P : Nat} (hP : P + 195 ≤ 1560) : ∃ σ', fX5_save (nI (P + 147)) σ = some (nI (P + 152), σ') ∧ (∀ q, q ≠ 1 → σ' q = σ q) ∧ ∀ k, σ' 1 k = if P + 147 ≤ k ∧ k < P + 152 then xpg σ (k - P) else σ 1 k := by
  refine ⟨(xu (xu (xu (xu (xu σ 1 (P + 147) (σ 20 0)) 1 (P + 148) (σ 20 1)) 1 (P + 149) (σ 20 2)) 1 (P + 150) (σ 20 3)) 1 (P + 151) (σ 20 4)), ?_, fun q hq => ?_, fun k => ?_⟩
  · unfold fX5_save
    simp (disch := omega) only [fa_lit, nI_add, xcpy_n, xs_n, Nat.add_assoc, Nat.reduceAdd, Nat.add_zero, xu_ne _ _ _ (show (20 : Nat) ≠ 1 by decide), xcp_ne _ (show (20 : Nat) ≠ 1 by decide)]
  · simp only [xu_ne _ _ _ hq, xcp_ne _ hq]
  · by_cases hk : P + 147 ≤ k ∧ k < P + 152
    · rw [if_pos hk]
      obtain ⟨j, rfl⟩ : ∃ j, k = P + j := ⟨k - P, by omega⟩
      rw [show P + j - P = j by omega]
      rcases (show (147 ≤ j ∧ j < 148) ∨ (148 ≤ j ∧ j < 149) ∨ (149 ≤ j ∧ j < 150) ∨ (150 ≤ j ∧ j < 151) ∨ (151 ≤ j ∧ j < 152) by omega) with h9 | h9 | h9 | h9 | h9
      all_goals (simp (disch := omega) only [xpg, xu_at, xcp_at, xu_ne, xcp_ne, va_cpy, upd, if_pos, if_neg] <;> (refine congrArg _ ?_; omega))
    · rw [if_neg hk]
      simp (disch := omega) only [xu_at, xcp_at, xu_ne, xcp_ne, va_cpy, upd, if_pos, if_neg]
theorem X0_save {σ : xSt} {P : Nat} (hP : P + 195 ≤ 1560) : ∃ σ', fX0_save (nI (P + 152)) σ = some (nI (P + 176), σ') ∧ (∀ q, q ≠ 1 → σ' q = σ q) ∧ ∀ k, σ' 1 k = if P + 152 ≤ k ∧ k < P + 176 then xpg σ (k - P) else σ 1 k := by
  refine ⟨(xcp σ 28 1 0 (P + 152) 24), ?_, fun q hq => ?_, fun k => ?_⟩
  · unfold fX0_save
    simp (disch := omega) only [fa_lit, nI_add, xcpy_n, xs_n, Nat.add_assoc, Nat.reduceAdd, Nat.add_zero, xu_ne _ _ _ (show (28 : Nat) ≠ 1 by decide), xcp_ne _ (show (28 : Nat) ≠ 1 by decide)]
  · simp only [xu_ne _ _ _ hq, xcp_ne _ hq]
  · by_cases hk : P + 152 ≤ k ∧ k < P + 176
    · rw [if_pos hk]
      obtain ⟨j, rfl⟩ : ∃ j, k = P + j := ⟨k - P, by omega⟩
      rw [show P + j - P = j by omega]
      rcases (show (152 ≤ j ∧ j < 176) by omega) with h9
      all_goals (simp (disch := omega) only [xpg, xu_at, xcp_at, xu_ne, xcp_ne, va_cpy, upd, if_pos, if_neg] <;> (refine congrArg _ ?_; omega))
    · rw [if_neg hk]
      simp (disch := omega) only [xu_at, xcp_at, xu_ne, xcp_ne, va_cpy, upd, if_pos, if_neg]
theorem X3_save {σ : xSt} {P : Nat} (hP : P + 195 ≤ 1560) : ∃ σ', fX3_save (nI (P + 176)) σ = some (nI (P + 188), σ') ∧ (∀ q, q ≠ 1 → σ' q = σ q) ∧ ∀ k, σ' 1 k = if P + 176 ≤ k ∧ k < P + 188 then xpg σ (k - P) else σ 1 k := by
  refine ⟨(xcp (xcp (xcp σ 30 1 0 (P + 176) 4) 31 1 0 (P + 180) 4) 32 1 0 (P + 184) 4), ?_, fun q hq => ?_, fun k => ?_⟩
  · unfold fX3_save
    simp (disch := omega) only [fa_lit, nI_add, xcpy_n, xs_n, Nat.add_assoc, Nat.reduceAdd, Nat.add_zero, xu_ne _ _ _ (show (30 : Nat) ≠ 1 by decide), xcp_ne _ (show (30 : Nat) ≠ 1 by decide), xu_ne _ _ _ (show (31 : Nat) ≠ 1 by decide), xcp_ne _ (show (31 : Nat) ≠ 1 by decide), xu_ne _ _ _ (show (32 : Nat) ≠ 1 by decide), xcp_ne _ (show (32 : Nat) ≠ 1 by decide)]
  · simp only [xu_ne _ _ _ hq, xcp_ne _ hq]
  · by_cases hk : P + 176 ≤ k ∧ k < P + 188
    · rw [if_pos hk]
      obtain ⟨j, rfl⟩ : ∃ j, k = P + j := ⟨k - P, by omega⟩
      rw [show P + j - P = j by omega]
      rcases (show (176 ≤ j ∧ j < 180) ∨ (180 ≤ j ∧ j < 184) ∨ (184 ≤ j ∧ j < 188) by omega) with h9 | h9 | h9
      all_goals (simp (disch := omega) only [xpg, xu_at, xcp_at, xu_ne, xcp_ne, va_cpy, upd, if_pos, if_neg] <;> (refine congrArg _ ?_; omega))
    · rw [if_neg hk]
      simp (disch := omega) only [xu_at, xcp_at, xu_ne, xcp_ne, va_cpy, upd, if_pos, if_neg]
theorem X4_save {σ : xSt} {P : Nat} (hP : P + 195 ≤ 1560) : ∃ σ', fX4_save (nI (P + 188)) σ = some (nI (P + 194), σ') ∧ (∀ q, q ≠ 1 → σ' q = σ q) ∧ ∀ k, σ' 1 k = if P + 188 ≤ k ∧ k < P + 194 then xpg σ (k - P) else σ 1 k := by
  refine ⟨(xcp σ 37 1 0 (P + 188) 6), ?_, fun q hq => ?_, fun k => ?_⟩
  · unfold fX4_save
    simp (disch := omega) only [fa_lit, nI_add, xcpy_n, xs_n, Nat.add_assoc, Nat.reduceAdd, Nat.add_zero, xu_ne _ _ _ (show (37 : Nat) ≠ 1 by decide), xcp_ne _ (show (37 : Nat) ≠ 1 by decide)]
  · simp only [xu_ne _ _ _ hq, xcp_ne _ hq]
  · by_cases hk : P + 188 ≤ k ∧ k < P + 194
    · rw [if_pos hk]
      obtain ⟨j, rfl⟩ : ∃ j, k = P + j := ⟨k - P, by omega⟩
      rw [show P + j - P = j by omega]
      rcases (show (188 ≤ j ∧ j < 194) by omega) with h9
      all_goals (simp (disch := omega) only [xpg, xu_at, xcp_at, xu_ne, xcp_ne, va_cpy, upd, if_pos, if_neg] <;> (refine congrArg _ ?_; omega))
    · rw [if_neg hk]
      simp (disch := omega) only [xu_at, xcp_at, xu_ne, xcp_ne, va_cpy, upd, if_pos, if_neg]
theorem X1_save {σ : xSt} {P : Nat} (hP : P + 195 ≤ 1560) : ∃ σ', fX1_save (nI (P + 194)) σ = some (nI (P + 195), σ') ∧ (∀ q, q ≠ 1 → σ' q = σ q) ∧ ∀ k, σ' 1 k = if P + 194 ≤ k ∧ k < P + 195 then xpg σ (k - P) else σ 1 k := by
  refine ⟨(xu σ 1 (P + 194) (σ 38 5)), ?_, fun q hq => ?_, fun k => ?_⟩
  · unfold fX1_save
    simp (disch := omega) only [fa_lit, nI_add, xcpy_n, xs_n, Nat.add_assoc, Nat.reduceAdd, Nat.add_zero, xu_ne _ _ _ (show (38 : Nat) ≠ 1 by decide), xcp_ne _ (show (38 : Nat) ≠ 1 by decide)]
  · simp only [xu_ne _ _ _ hq, xcp_ne _ hq]
  · by_cases hk : P + 194 ≤ k ∧ k < P + 195
    · rw [if_pos hk]
      obtain ⟨j, rfl⟩ : ∃ j, k = P + j := ⟨k - P, by omega⟩
      rw [show P + j - P = j by omega]
      rcases (show (194 ≤ j ∧ j < 195) by omega) with h9
      all_goals (simp (disch := omega) only [xpg, xu_at, xcp_at, xu_ne, xcp_ne, va_cpy, upd, if_pos, if_neg] <;> (refine congrArg _ ?_; omega))
    · rw [if_neg hk]
      simp (disch := omega) only [xu_at, xcp_at, xu_ne, xcp_ne, va_cpy, upd, if_pos, if_neg]
theorem X_rem {σ : xSt} {P : Nat} (hP : P + 195 ≤ 1560) : ∃ σ', fX11_remember_c52 (nI P) σ = some σ' ∧ (∀ q, q ≠ 1 → σ' q = σ q) ∧ ∀ k, σ' 1 k = if P ≤ k ∧ k < P + 195 then xpg σ (k - P) else σ 1 k := by
  obtain ⟨σ1, e1, f1, g1⟩ := X10_save (σ := σ) hP
  obtain ⟨σ2, e2, f2, g2⟩ := X8_save (σ := σ1) hP
  obtain ⟨σ3, e3, f3, g3⟩ := X2_save (σ := σ2) hP
  obtain ⟨σ4, e4, f4, g4⟩ := X5_save (σ := σ3) hP
  obtain ⟨σ5, e5, f5, g5⟩ := X0_save (σ := σ4) hP
  obtain ⟨σ6, e6, f6, g6⟩ := X3_save (σ := σ5) hP
  obtain ⟨σ7, e7, f7, g7⟩ := X4_save (σ := σ6) hP
  obtain ⟨σ8, e8, f8, g8⟩ := X1_save (σ := σ7) hP
  refine ⟨σ8, ?_, fun q hq => ?_, fun k => ?_⟩
  · unfold fX11_remember_c52
    rw [e1, xc2_t, e2, xc2_t, e3, xc2_t, e4, xc2_t, e5, xc2_t, e6, xc2_t, e7, xc2_t, e8, xc2_t]
  · rw [f8 q hq, f7 q hq, f6 q hq, f5 q hq, f4 q hq, f3 q hq, f2 q hq, f1 q hq]
  · have c1 : ∀ j, xpg σ1 j = xpg σ j := xpg_cong f1
    have c2 : ∀ j, xpg σ2 j = xpg σ j := fun j => (xpg_cong f2 j).trans (c1 j)
    have c3 : ∀ j, xpg σ3 j = xpg σ j := fun j => (xpg_cong f3 j).trans (c2 j)
    have c4 : ∀ j, xpg σ4 j = xpg σ j := fun j => (xpg_cong f4 j).trans (c3 j)
    have c5 : ∀ j, xpg σ5 j = xpg σ j := fun j => (xpg_cong f5 j).trans (c4 j)
    have c6 : ∀ j, xpg σ6 j = xpg σ j := fun j => (xpg_cong f6 j).trans (c5 j)
    have c7 : ∀ j, xpg σ7 j = xpg σ j := fun j => (xpg_cong f7 j).trans (c6 j)
    rw [g8 k, g7 k, g6 k, g5 k, g4 k, g3 k, g2 k, g1 k]
    simp only [c1, c2, c3, c4, c5, c6, c7]
    repeat' split
    all_goals first | rfl | omega | skip
theorem X10_load {σ : xSt} {P : Nat} (hP : P + 195 ≤ 1560) : ∃ σ', fX10_load (nI (P)) σ = some (nI (P + 11), σ') ∧ (∀ q, q ≠ 2 → q ≠ 3 → σ' q = σ q) ∧ (∀ k, k < 8 → σ' 3 k = σ 1 (P + 0 + k)) ∧ σ' 2 1 = σ 1 (P + 8) ∧ σ' 2 2 = σ 1 (P + 9) ∧ σ' 2 3 = σ 1 (P + 10) := by
  refine ⟨(xu (xu (xu (xcp σ 1 3 P 0 8) 2 1 (σ 1 (P + 8))) 2 2 (σ 1 (P + 9))) 2 3 (σ 1 (P + 10))), ?_, ?_, ?_, ?_, ?_, ?_⟩
  · unfold fX10_load
    simp (disch := omega) only [fa_lit, nI_add, xcpy_n, xr_n, xp_t, Nat.add_assoc, Nat.reduceAdd, Nat.add_zero, xu_ne _ _ _ (show (1 : Nat) ≠ 2 by decide), xcp_ne _ (show (1 : Nat) ≠ 2 by decide), xu_ne _ _ _ (show (1 : Nat) ≠ 3 by decide), xcp_ne _ (show (1 : Nat) ≠ 3 by decide)]
  · intro q h0 h1
    simp only [xu_ne _ _ _ h0, xcp_ne _ h0, xu_ne _ _ _ h1, xcp_ne _ h1]
  · intro k hk
    simp [xu, xcp, va_cpy, upd, hk]
  · simp [xu, xcp, va_cpy, upd]
  · simp [xu, xcp, va_cpy, upd]
  · simp [xu, xcp, va_cpy, upd]
theorem X8_load {σ : xSt} {P : Nat} (hP : P + 195 ≤ 1560) : ∃ σ', fX8_load (nI (P + 11)) σ = some (nI (P + 66), σ') ∧ (∀ q, q ≠ 4 → q ≠ 10 → q ≠ 11 → σ' q = σ q) ∧ σ' 4 7 = σ 1 (P + 11) ∧ (∀ k, k < 6 → σ' 10 k = σ 1 (P + 12 + k)) ∧ (∀ k, k < 48 → σ' 11 k = σ 1 (P + 18 + k)) := by
  refine ⟨(xcp (xcp (xu σ 4 7 (σ 1 (P + 11))) 1 10 (P + 12) 0 6) 1 11 (P + 18) 0 48), ?_, ?_, ?_, ?_, ?_⟩
  · unfold fX8_load
    simp (disch := omega) only [fa_lit, nI_add, xcpy_n, xr_n, xp_t, Nat.add_assoc, Nat.reduceAdd, Nat.add_zero, xu_ne _ _ _ (show (1 : Nat) ≠ 4 by decide), xcp_ne _ (show (1 : Nat) ≠ 4 by decide), xu_ne _ _ _ (show (1 : Nat) ≠ 10 by decide), xcp_ne _ (show (1 : Nat) ≠ 10 by decide), xu_ne _ _ _ (show (1 : Nat) ≠ 11 by decide), xcp_ne _ (show (1 : Nat) ≠ 11 by decide)]
  · intro q h0 h1 h2
    simp only [xu_ne _ _ _ h0, xcp_ne _ h0, xu_ne _ _ _ h1, xcp_ne _ h1, xu_ne _ _ _ h2, xcp_ne _ h2]
  · simp [xu, xcp, va_cpy, upd]
  · intro k hk
    simp [xu, xcp, va_cpy, upd, hk]
  · intro k hk
    simp [xu, xcp, va_cpy, upd, hk]
theorem X2_load {σ : xSt} {P : Nat} (hP : P + 195 ≤ 1560) : ∃ σ', fX2_load (nI (P + 66)) σ = some (nI (P + 147), σ') ∧ (∀ q, q ≠ 12 → q ≠ 16 → q ≠ 17 → q ≠ 18 → q ≠ 19 → σ' q = σ q) ∧ σ' 12 7 = σ 1 (P + 66) ∧ (∀ k, k < 20 → σ' 16 k = σ 1 (P + 67 + k)) ∧ (∀ k, k < 20 → σ' 17 k = σ 1 (P + 87 + k)) ∧ (∀ k, k < 20 → σ' 18 k = σ 1 (P + 107 + k)) ∧ (∀ k, k < 20 → σ' 19 k = σ 1 (P + 127 + k)) := by
  refine ⟨(xcp (xcp (xcp (xcp (xu σ 12 7 (σ 1 (P + 66))) 1 16 (P + 67) 0 20) 1 17 (P + 87) 0 20) 1 18 (P + 107) 0 20) 1 19 (P + 127) 0 20), ?_, ?_, ?_, ?_, ?_, ?_, ?_⟩
  · unfold fX2_load
    simp (disch := omega) only [fa_lit, nI_add, xcpy_n, xr_n, xp_t, Nat.add_assoc, Nat.reduceAdd, Nat.add_zero, xu_ne _ _ _ (show (1 : Nat) ≠ 12 by decide), xcp_ne _ (show (1 : Nat) ≠ 12 by decide), xu_ne _ _ _ (show (1 : Nat) ≠ 16 by decide), xcp_ne _ (show (1 : Nat) ≠ 16 by decide), xu_ne _ _ _ (show (1 : Nat) ≠ 17 by decide), xcp_ne _ (show (1 : Nat) ≠ 17 by decide), xu_ne _ _ _ (show (1 : Nat) ≠ 18 by decide), xcp_ne _ (show (1 : Nat) ≠ 18 by decide), xu_ne _ _ _ (show (1 : Nat) ≠ 19 by decide), xcp_ne _ (show (1 : Nat) ≠ 19 by decide)]
  · intro q h0 h1 h2 h3 h4
    simp only [xu_ne _ _ _ h0, xcp_ne _ h0, xu_ne _ _ _ h1, xcp_ne _ h1, xu_ne _ _ _ h2, xcp_ne _ h2, xu_ne _ _ _ h3, xcp_ne _ h3, xu_ne _ _ _ h4, xcp_ne _ h4]
  · simp [xu, xcp, va_cpy, upd]
  · intro k hk
    simp [xu, xcp, va_cpy, upd, hk]
  · intro k hk
    simp [xu, xcp, va_cpy, upd, hk]
  · intro k hk
    simp [xu, xcp, va_cpy, upd, hk]
  · intro k hk
    simp [xu, xcp, va_cpy, upd, hk]
theorem X5_load {σ : xSt} {P : Nat} (hP : P + 195 ≤ 1560) : ∃ σ', fX5_load (nI (P + 147)) σ = some (nI (P + 152), σ') ∧ (∀ q, q ≠ 20 → σ' q = σ q) ∧ σ' 20 0 = σ 1 (P + 147) ∧ σ' 20 1 = σ 1 (P + 148) ∧ σ' 20 2 = σ 1 (P + 149) ∧ σ' 20 3 = σ 1 (P + 150) ∧ σ' 20 4 = σ 1 (P + 151) := by
  refine ⟨(xu (xu (xu (xu (xu σ 20 0 (σ 1 (P + 147))) 20 1 (σ 1 (P + 148))) 20 2 (σ 1 (P + 149))) 20 3 (σ 1 (P + 150))) 20 4 (σ 1 (P + 151))), ?_, ?_, ?_, ?_, ?_, ?_, ?_⟩
  · unfold fX5_load
    simp (disch := omega) only [fa_lit, nI_add, xcpy_n, xr_n, xp_t, Nat.add_assoc, Nat.reduceAdd, Nat.add_zero, xu_ne _ _ _ (show (1 : Nat) ≠ 20 by decide), xcp_ne _ (show (1 : Nat) ≠ 20 by decide)]
  · intro q h0
    simp only [xu_ne _ _ _ h0, xcp_ne _ h0]
  · simp [xu, xcp, va_cpy, upd]
  · simp [xu, xcp, va_cpy, upd]
  · simp [xu, xcp, va_cpy, upd]
  · simp [xu, xcp, va_cpy, upd]
  · simp [xu, xcp, va_cpy, upd]
theorem X0_load {σ : xSt} {P : Nat} (hP : P + 195 ≤ 1560) : ∃ σ', fX0_load (nI (P + 152)) σ = some (nI (P + 176), σ') ∧ (∀ q, q ≠ 28 → σ' q = σ q) ∧ (∀ k, k < 24 → σ' 28 k = σ 1 (P + 152 + k)) := by
  refine ⟨(xcp σ 1 28 (P + 152) 0 24), ?_, ?_, ?_⟩
  · unfold fX0_load
    simp (disch := omega) only [fa_lit, nI_add, xcpy_n, xr_n, xp_t, Nat.add_assoc, Nat.reduceAdd, Nat.add_zero, xu_ne _ _ _ (show (1 : Nat) ≠ 28 by decide), xcp_ne _ (show (1 : Nat) ≠ 28 by decide)]
  · intro q h0
    simp only [xu_ne _ _ _ h0, xcp_ne _ h0]
  · intro k hk
    simp [xu, xcp, va_cpy, upd, hk]
theorem X3_load {σ : xSt} {P : Nat} (hP : P + 195 ≤ 1560) : ∃ σ', fX3_load (nI (P + 176)) σ = some (nI (P + 188), σ') ∧ (∀ q, q ≠ 30 → q ≠ 31 → q ≠ 32 → σ' q = σ q) ∧ (∀ k, k < 4 → σ' 30 k = σ 1 (P + 176 + k)) ∧ (∀ k, k < 4 → σ' 31 k = σ 1 (P + 180 + k)) ∧ (∀ k, k < 4 → σ' 32 k = σ 1 (P + 184 + k)) := by
  refine ⟨(xcp (xcp (xcp σ 1 30 (P + 176) 0 4) 1 31 (P + 180) 0 4) 1 32 (P + 184) 0 4), ?_, ?_, ?_, ?_, ?_⟩
  · unfold fX3_load
    simp (disch := omega) only [fa_lit, nI_add, xcpy_n, xr_n, xp_t, Nat.add_assoc, Nat.reduceAdd, Nat.add_zero, xu_ne _ _ _ (show (1 : Nat) ≠ 30 by decide), xcp_ne _ (show (1 : Nat) ≠ 30 by decide), xu_ne _ _ _ (show (1 : Nat) ≠ 31 by decide), xcp_ne _ (show (1 : Nat) ≠ 31 by decide), xu_ne _ _ _ (show (1 : Nat) ≠ 32 by decide), xcp_ne _ (show (1 : Nat) ≠ 32 by decide)]
  · intro q h0 h1 h2
    simp only [xu_ne _ _ _ h0, xcp_ne _ h0, xu_ne _ _ _ h1, xcp_ne _ h1, xu_ne _ _ _ h2, xcp_ne _ h2]
  · intro k hk
    simp [xu, xcp, va_cpy, upd, hk]
  · intro k hk
    simp [xu, xcp, va_cpy, upd, hk]
  · intro k hk
    simp [xu, xcp, va_cpy, upd, hk]
theorem X4_load {σ : xSt} {P : Nat} (hP : P + 195 ≤ 1560) : ∃ σ', fX4_load (nI (P + 188)) σ = some (nI (P + 194), σ') ∧ (∀ q, q ≠ 37 → σ' q = σ q) ∧ (∀ k, k < 6 → σ' 37 k = σ 1 (P + 188 + k)) := by
  refine ⟨(xcp σ 1 37 (P + 188) 0 6), ?_, ?_, ?_⟩
  · unfold fX4_load
    simp (disch := omega) only [fa_lit, nI_add, xcpy_n, xr_n, xp_t, Nat.add_assoc, Nat.reduceAdd, Nat.add_zero, xu_ne _ _ _ (show (1 : Nat) ≠ 37 by decide), xcp_ne _ (show (1 : Nat) ≠ 37 by decide)]
  · intro q h0
    simp only [xu_ne _ _ _ h0, xcp_ne _ h0]
  · intro k hk
    simp [xu, xcp, va_cpy, upd, hk]
theorem X1_load {σ : xSt} {P : Nat} (hP : P + 195 ≤ 1560) : ∃ σ', fX1_load (nI (P + 194)) σ = some (nI (P + 195), σ') ∧ (∀ q, q ≠ 38 → σ' q = σ q) ∧ σ' 38 5 = σ 1 (P + 194) := by
  refine ⟨(xu σ 38 5 (σ 1 (P + 194))), ?_, ?_, ?_⟩
  · unfold fX1_load
    simp (disch := omega) only [fa_lit, nI_add, xcpy_n, xr_n, xp_t, Nat.add_assoc, Nat.reduceAdd, Nat.add_zero, xu_ne _ _ _ (show (1 : Nat) ≠ 38 by decide), xcp_ne _ (show (1 : Nat) ≠ 38 by decide)]
  · intro q h0
    simp only [xu_ne _ _ _ h0, xcp_ne _ h0]
  · simp [xu, xcp, va_cpy, upd]
