/-! ===== THE CLASS AGAINST A STATE s (the model's order of numbers) ===== -/
def cR (s : sS) : Nat := (s 5).toNatClampNeg
def cD (s : sS) : Nat := (s 6).toNatClampNeg
def cS (s : sS) : Nat := (s 7).toNatClampNeg
def cN (s : sS) (r : Nat) : Nat := (s (259 + r)).toNatClampNeg
def xoff (q : Nat) : Nat := match q with
  | 2 => 7
  | 3 => 0
  | 4 => 4
  | 10 => 12
  | 11 => 18
  | 12 => 59
  | 16 => 67
  | 17 => 87
  | 18 => 107
  | 19 => 127
  | 20 => 147
  | 28 => 152
  | 30 => 176
  | 31 => 180
  | 32 => 184
  | 37 => 188
  | 38 => 189
  | _ => 0
def xseg (q k : Nat) : Prop := (q = 3 ∧ 0 ≤ k ∧ k < 8) ∨ (q = 2 ∧ 1 ≤ k ∧ k < 2) ∨ (q = 2 ∧ 2 ≤ k ∧ k < 3) ∨ (q = 2 ∧ 3 ≤ k ∧ k < 4) ∨ (q = 4 ∧ 7 ≤ k ∧ k < 8) ∨ (q = 10 ∧ 0 ≤ k ∧ k < 6) ∨ (q = 11 ∧ 0 ≤ k ∧ k < 48) ∨ (q = 12 ∧ 7 ≤ k ∧ k < 8) ∨ (q = 16 ∧ 0 ≤ k ∧ k < 20) ∨ (q = 17 ∧ 0 ≤ k ∧ k < 20) ∨ (q = 18 ∧ 0 ≤ k ∧ k < 20) ∨ (q = 19 ∧ 0 ≤ k ∧ k < 20) ∨ (q = 20 ∧ 0 ≤ k ∧ k < 1) ∨ (q = 20 ∧ 1 ≤ k ∧ k < 2) ∨ (q = 20 ∧ 2 ≤ k ∧ k < 3) ∨ (q = 20 ∧ 3 ≤ k ∧ k < 4) ∨ (q = 20 ∧ 4 ≤ k ∧ k < 5) ∨ (q = 28 ∧ 0 ≤ k ∧ k < 24) ∨ (q = 30 ∧ 0 ≤ k ∧ k < 4) ∨ (q = 31 ∧ 0 ≤ k ∧ k < 4) ∨ (q = 32 ∧ 0 ≤ k ∧ k < 4) ∨ (q = 37 ∧ 0 ≤ k ∧ k < 6) ∨ (q = 38 ∧ 5 ≤ k ∧ k < 6)
/-- what a page, or the present, says of s -/
def pgS (F : Nat → Nat → Int32) (s : sS) : Prop := (∀ k, k < 8 → F 3 k = s (11 + k)) ∧ F 2 1 = s 8 ∧ F 2 2 = s 9 ∧ F 2 3 = s 10 ∧ F 4 7 = s 5 ∧ (∀ k, k < 6 → F 10 k = if k < cR s then s (49 + k) else 20) ∧ (∀ k, k < 48 → F 11 k = s (55 + k)) ∧ F 12 7 = s 6 ∧ (∀ k, k < 20 → F 16 k = s (143 + k)) ∧ (∀ k, k < 20 → F 17 k = s (163 + k)) ∧ (∀ k, k < 20 → F 18 k = s (183 + k)) ∧ (∀ k, k < 20 → F 19 k = s (203 + k)) ∧ F 20 0 = s 0 ∧ F 20 1 = s 1 ∧ F 20 2 = s 4 ∧ F 20 3 = s 2 ∧ F 20 4 = s 3 ∧ (∀ k, k < 24 → F 28 k = s (223 + k)) ∧ (∀ k, k < 4 → F 30 k = s (247 + k)) ∧ (∀ k, k < 4 → F 31 k = s (251 + k)) ∧ (∀ k, k < 4 → F 32 k = s (255 + k)) ∧ (∀ k, k < 6 → F 37 k = s (259 + k)) ∧ F 38 5 = s 7
theorem pgS.cong {F G : Nat → Nat → Int32} {s : sS} (h : pgS F s) (e : ∀ q k, xseg q k → G q k = F q k) : pgS G s := by
  obtain ⟨hgrams, hcame, hsold, hgone, hnrec, hwait, hparts, hndough, hpoints, hstate, hshaped, hwent, htick, hwarmth, hdecks, hheat, hsetHeat, hbreads, hstrength, hcost, hcap, hncount, hnshop⟩ := h
  exact ⟨fun k hk => (e 3 k (Or.inl ⟨rfl, Nat.zero_le _, hk⟩)).trans (hgrams k hk), (e 2 1 (Or.inr (Or.inl ⟨rfl, Nat.le_refl _, Nat.lt_succ_self _⟩))).trans hcame, (e 2 2 (Or.inr (Or.inr (Or.inl ⟨rfl, Nat.le_refl _, Nat.lt_succ_self _⟩)))).trans hsold, (e 2 3 (Or.inr (Or.inr (Or.inr (Or.inl ⟨rfl, Nat.le_refl _, Nat.lt_succ_self _⟩))))).trans hgone, (e 4 7 (Or.inr (Or.inr (Or.inr (Or.inr (Or.inl ⟨rfl, Nat.le_refl _, Nat.lt_succ_self _⟩)))))).trans hnrec, fun k hk => (e 10 k (Or.inr (Or.inr (Or.inr (Or.inr (Or.inr (Or.inl ⟨rfl, Nat.zero_le _, hk⟩))))))).trans (hwait k hk), fun k hk => (e 11 k (Or.inr (Or.inr (Or.inr (Or.inr (Or.inr (Or.inr (Or.inl ⟨rfl, Nat.zero_le _, hk⟩)))))))).trans (hparts k hk), (e 12 7 (Or.inr (Or.inr (Or.inr (Or.inr (Or.inr (Or.inr (Or.inr (Or.inl ⟨rfl, Nat.le_refl _, Nat.lt_succ_self _⟩))))))))).trans hndough, fun k hk => (e 16 k (Or.inr (Or.inr (Or.inr (Or.inr (Or.inr (Or.inr (Or.inr (Or.inr (Or.inl ⟨rfl, Nat.zero_le _, hk⟩)))))))))).trans (hpoints k hk), fun k hk => (e 17 k (Or.inr (Or.inr (Or.inr (Or.inr (Or.inr (Or.inr (Or.inr (Or.inr (Or.inr (Or.inl ⟨rfl, Nat.zero_le _, hk⟩))))))))))).trans (hstate k hk), fun k hk => (e 18 k (Or.inr (Or.inr (Or.inr (Or.inr (Or.inr (Or.inr (Or.inr (Or.inr (Or.inr (Or.inr (Or.inl ⟨rfl, Nat.zero_le _, hk⟩)))))))))))).trans (hshaped k hk), fun k hk => (e 19 k (Or.inr (Or.inr (Or.inr (Or.inr (Or.inr (Or.inr (Or.inr (Or.inr (Or.inr (Or.inr (Or.inr (Or.inl ⟨rfl, Nat.zero_le _, hk⟩))))))))))))).trans (hwent k hk), (e 20 0 (Or.inr (Or.inr (Or.inr (Or.inr (Or.inr (Or.inr (Or.inr (Or.inr (Or.inr (Or.inr (Or.inr (Or.inr (Or.inl ⟨rfl, Nat.le_refl _, Nat.lt_succ_self _⟩)))))))))))))).trans htick, (e 20 1 (Or.inr (Or.inr (Or.inr (Or.inr (Or.inr (Or.inr (Or.inr (Or.inr (Or.inr (Or.inr (Or.inr (Or.inr (Or.inr (Or.inl ⟨rfl, Nat.le_refl _, Nat.lt_succ_self _⟩))))))))))))))).trans hwarmth, (e 20 2 (Or.inr (Or.inr (Or.inr (Or.inr (Or.inr (Or.inr (Or.inr (Or.inr (Or.inr (Or.inr (Or.inr (Or.inr (Or.inr (Or.inr (Or.inl ⟨rfl, Nat.le_refl _, Nat.lt_succ_self _⟩)))))))))))))))).trans hdecks, (e 20 3 (Or.inr (Or.inr (Or.inr (Or.inr (Or.inr (Or.inr (Or.inr (Or.inr (Or.inr (Or.inr (Or.inr (Or.inr (Or.inr (Or.inr (Or.inr (Or.inl ⟨rfl, Nat.le_refl _, Nat.lt_succ_self _⟩))))))))))))))))).trans hheat, (e 20 4 (Or.inr (Or.inr (Or.inr (Or.inr (Or.inr (Or.inr (Or.inr (Or.inr (Or.inr (Or.inr (Or.inr (Or.inr (Or.inr (Or.inr (Or.inr (Or.inr (Or.inl ⟨rfl, Nat.le_refl _, Nat.lt_succ_self _⟩)))))))))))))))))).trans hsetHeat, fun k hk => (e 28 k (Or.inr (Or.inr (Or.inr (Or.inr (Or.inr (Or.inr (Or.inr (Or.inr (Or.inr (Or.inr (Or.inr (Or.inr (Or.inr (Or.inr (Or.inr (Or.inr (Or.inr (Or.inl ⟨rfl, Nat.zero_le _, hk⟩))))))))))))))))))).trans (hbreads k hk), fun k hk => (e 30 k (Or.inr (Or.inr (Or.inr (Or.inr (Or.inr (Or.inr (Or.inr (Or.inr (Or.inr (Or.inr (Or.inr (Or.inr (Or.inr (Or.inr (Or.inr (Or.inr (Or.inr (Or.inr (Or.inl ⟨rfl, Nat.zero_le _, hk⟩)))))))))))))))))))).trans (hstrength k hk), fun k hk => (e 31 k (Or.inr (Or.inr (Or.inr (Or.inr (Or.inr (Or.inr (Or.inr (Or.inr (Or.inr (Or.inr (Or.inr (Or.inr (Or.inr (Or.inr (Or.inr (Or.inr (Or.inr (Or.inr (Or.inr (Or.inl ⟨rfl, Nat.zero_le _, hk⟩))))))))))))))))))))).trans (hcost k hk), fun k hk => (e 32 k (Or.inr (Or.inr (Or.inr (Or.inr (Or.inr (Or.inr (Or.inr (Or.inr (Or.inr (Or.inr (Or.inr (Or.inr (Or.inr (Or.inr (Or.inr (Or.inr (Or.inr (Or.inr (Or.inr (Or.inr (Or.inl ⟨rfl, Nat.zero_le _, hk⟩)))))))))))))))))))))).trans (hcap k hk), fun k hk => (e 37 k (Or.inr (Or.inr (Or.inr (Or.inr (Or.inr (Or.inr (Or.inr (Or.inr (Or.inr (Or.inr (Or.inr (Or.inr (Or.inr (Or.inr (Or.inr (Or.inr (Or.inr (Or.inr (Or.inr (Or.inr (Or.inr (Or.inl ⟨rfl, Nat.zero_le _, hk⟩))))))))))))))))))))))).trans (hncount k hk), (e 38 5 (Or.inr (Or.inr (Or.inr (Or.inr (Or.inr (Or.inr (Or.inr (Or.inr (Or.inr (Or.inr (Or.inr (Or.inr (Or.inr (Or.inr (Or.inr (Or.inr (Or.inr (Or.inr (Or.inr (Or.inr (Or.inr (Or.inr ⟨rfl, Nat.le_refl _, Nat.lt_succ_self _⟩))))))))))))))))))))))).trans hnshop⟩
/-- what is only ever added to -/
def lvS (σ : xSt) (s : sS) : Prop := (∀ k, k < cR s → σ 5 k = s (19 + k)) ∧ (∀ k, k < cR s → σ 6 k = s (25 + k)) ∧ (∀ k, k < cR s → σ 7 k = s (31 + k)) ∧ (∀ k, k < cR s → σ 8 k = s (37 + k)) ∧ (∀ k, k < cR s → σ 9 k = s (43 + k)) ∧ (∀ k, k < cD s → σ 13 k = s (103 + k)) ∧ (∀ k, k < cD s → σ 14 k = s (123 + k)) ∧ (∀ k, k < cS s → σ 39 k = s (625 + k)) ∧ (∀ k, k < cS s → σ 40 k = s (632 + k)) ∧ (∀ k, k < cS s → σ 41 k = s (639 + k)) ∧ (∀ k, k < cS s → σ 42 k = s (646 + k)) ∧ (∀ k, k < cS s → σ 43 k = s (653 + k)) ∧ (∀ k, k < cD s → σ 15 k = s (123 + k) * s (19 + (s (103 + k)).toNatClampNeg)) ∧ (∀ r, r < 6 → ∀ k, k < cN s r → σ 36 (60 * r + k) = s (265 + (60 * r + k)))
theorem lvS.cong {σ σ' : xSt} {s : sS} (h : lvS σ s) (e5 : σ' 5 = σ 5) (e6 : σ' 6 = σ 6) (e7 : σ' 7 = σ 7) (e8 : σ' 8 = σ 8) (e9 : σ' 9 = σ 9) (e13 : σ' 13 = σ 13) (e14 : σ' 14 = σ 14) (e39 : σ' 39 = σ 39) (e40 : σ' 40 = σ 40) (e41 : σ' 41 = σ 41) (e42 : σ' 42 = σ 42) (e43 : σ' 43 = σ 43) (e15 : σ' 15 = σ 15) (e36 : σ' 36 = σ 36) : lvS σ' s := by
  unfold lvS at h ⊢
  rw [e5, e6, e7, e8, e9, e13, e14, e39, e40, e41, e42, e43, e15, e36]
  exact h
def RXh (σ : xSt) (H : List sS) : Prop := H.length ≤ 8 ∧ σ 0 13 = nI H.length ∧ ∃ o0, o0 < 8 ∧ σ 0 12 = nI o0 ∧ ∀ i x, H[i]? = some x → pgS (fun q k => σ 1 (195 * ((o0 + i) % 8) + (xoff q + k))) x ∧ lvS σ x
def RXt (σ : xSt) (tx : (Nat → Int32) × Nat) : Prop := tx.2 ≤ 80 ∧ σ 49 1 = nI tx.2 ∧ ∀ k, k < tx.2 → σ 50 k = tx.1 k
def RX (σ : xSt) (a : xA) : Prop := pgS σ a.2.1 ∧ lvS σ a.2.1 ∧ RXh σ a.1 ∧ (σ 39 7 = 0 ∧ σ 40 7 = 0) ∧ RXt σ a.2.2
theorem x_pgat (σ : xSt) {q k : Nat} (h : xseg q k) : xpg σ (xoff q + k) = σ q k ∧ xoff q + k < 195 := by
  unfold xseg at h
  rcases h with ⟨rfl, h1, h2⟩ | ⟨rfl, h1, h2⟩ | ⟨rfl, h1, h2⟩ | ⟨rfl, h1, h2⟩ | ⟨rfl, h1, h2⟩ | ⟨rfl, h1, h2⟩ | ⟨rfl, h1, h2⟩ | ⟨rfl, h1, h2⟩ | ⟨rfl, h1, h2⟩ | ⟨rfl, h1, h2⟩ | ⟨rfl, h1, h2⟩ | ⟨rfl, h1, h2⟩ | ⟨rfl, h1, h2⟩ | ⟨rfl, h1, h2⟩ | ⟨rfl, h1, h2⟩ | ⟨rfl, h1, h2⟩ | ⟨rfl, h1, h2⟩ | ⟨rfl, h1, h2⟩ | ⟨rfl, h1, h2⟩ | ⟨rfl, h1, h2⟩ | ⟨rfl, h1, h2⟩ | ⟨rfl, h1, h2⟩ | ⟨rfl, h1, h2⟩
  · refine ⟨?_, by show 0 + k < 195; omega⟩
    show xpg σ (0 + k) = σ 3 k
    simp (disch := omega) only [xpg, if_pos, if_neg, Nat.add_sub_cancel_left, Nat.zero_add, Nat.sub_zero]
  · obtain rfl : k = 1 := by omega
    exact ⟨rfl, by decide⟩
  · obtain rfl : k = 2 := by omega
    exact ⟨rfl, by decide⟩
  · obtain rfl : k = 3 := by omega
    exact ⟨rfl, by decide⟩
  · obtain rfl : k = 7 := by omega
    exact ⟨rfl, by decide⟩
  · refine ⟨?_, by show 12 + k < 195; omega⟩
    show xpg σ (12 + k) = σ 10 k
    simp (disch := omega) only [xpg, if_pos, if_neg, Nat.add_sub_cancel_left]
  · refine ⟨?_, by show 18 + k < 195; omega⟩
    show xpg σ (18 + k) = σ 11 k
    simp (disch := omega) only [xpg, if_pos, if_neg, Nat.add_sub_cancel_left]
  · obtain rfl : k = 7 := by omega
    exact ⟨rfl, by decide⟩
  · refine ⟨?_, by show 67 + k < 195; omega⟩
    show xpg σ (67 + k) = σ 16 k
    simp (disch := omega) only [xpg, if_pos, if_neg, Nat.add_sub_cancel_left]
  · refine ⟨?_, by show 87 + k < 195; omega⟩
    show xpg σ (87 + k) = σ 17 k
    simp (disch := omega) only [xpg, if_pos, if_neg, Nat.add_sub_cancel_left]
  · refine ⟨?_, by show 107 + k < 195; omega⟩
    show xpg σ (107 + k) = σ 18 k
    simp (disch := omega) only [xpg, if_pos, if_neg, Nat.add_sub_cancel_left]
  · refine ⟨?_, by show 127 + k < 195; omega⟩
    show xpg σ (127 + k) = σ 19 k
    simp (disch := omega) only [xpg, if_pos, if_neg, Nat.add_sub_cancel_left]
  · obtain rfl : k = 0 := by omega
    exact ⟨rfl, by decide⟩
  · obtain rfl : k = 1 := by omega
    exact ⟨rfl, by decide⟩
  · obtain rfl : k = 2 := by omega
    exact ⟨rfl, by decide⟩
  · obtain rfl : k = 3 := by omega
    exact ⟨rfl, by decide⟩
  · obtain rfl : k = 4 := by omega
    exact ⟨rfl, by decide⟩
  · refine ⟨?_, by show 152 + k < 195; omega⟩
    show xpg σ (152 + k) = σ 28 k
    simp (disch := omega) only [xpg, if_pos, if_neg, Nat.add_sub_cancel_left]
  · refine ⟨?_, by show 176 + k < 195; omega⟩
    show xpg σ (176 + k) = σ 30 k
    simp (disch := omega) only [xpg, if_pos, if_neg, Nat.add_sub_cancel_left]
  · refine ⟨?_, by show 180 + k < 195; omega⟩
    show xpg σ (180 + k) = σ 31 k
    simp (disch := omega) only [xpg, if_pos, if_neg, Nat.add_sub_cancel_left]
  · refine ⟨?_, by show 184 + k < 195; omega⟩
    show xpg σ (184 + k) = σ 32 k
    simp (disch := omega) only [xpg, if_pos, if_neg, Nat.add_sub_cancel_left]
  · refine ⟨?_, by show 188 + k < 195; omega⟩
    show xpg σ (188 + k) = σ 37 k
    simp (disch := omega) only [xpg, if_pos, if_neg, Nat.add_sub_cancel_left]
  · obtain rfl : k = 5 := by omega
    exact ⟨rfl, by decide⟩
theorem pair_cells {σ σ' : xSt} {s : sS} (h : lvS σ s) (f : ∀ q, q ≠ 0 → q ≠ 1 → σ' q = σ q) : lvS σ' s := lvS.cong h (f 5 (by decide) (by decide)) (f 6 (by decide) (by decide)) (f 7 (by decide) (by decide)) (f 8 (by decide) (by decide)) (f 9 (by decide) (by decide)) (f 13 (by decide) (by decide)) (f 14 (by decide) (by decide)) (f 39 (by decide) (by decide)) (f 40 (by decide) (by decide)) (f 41 (by decide) (by decide)) (f 42 (by decide) (by decide)) (f 43 (by decide) (by decide)) (f 15 (by decide) (by decide)) (f 36 (by decide) (by decide))
theorem X_remember {σ : xSt} {H : List sS} {s : sS} {tx : (Nat → Int32) × Nat} (h : RX σ (H, s, tx)) : ∃ σ', fX11_remember σ = some σ' ∧ RX σ' (kp H s, s, tx) ∧ ∀ q, q ≠ 0 → q ≠ 1 → σ' q = σ q := by
  have h : pgS σ s ∧ lvS σ s ∧ RXh σ H ∧ (σ 39 7 = 0 ∧ σ 40 7 = 0) ∧ RXt σ tx := h
  obtain ⟨hp, hl, ⟨h8, ha, o0, ho8, ho, hh⟩, hbk, ht⟩ := h
  have h8 : H.length ≤ 8 := h8
  have ha : σ 0 13 = nI H.length := ha
  have hv : (σ 0 12 + σ 0 13 - (σ 0 12 + σ 0 13) / 8 * 8) * 195 = nI (195 * ((o0 + H.length) % 8)) := by
    rw [ho, ha, nI_add, show (8 : Int32) = nI 8 from rfl, nI_rem (by omega) (by decide) (by decide), show (195 : Int32) = nI 195 from rfl, nI_mul, Nat.mul_comm]
  have main : ∀ (σ1 : xSt) (o1 u1 : Nat) (G : List sS), (∀ q, q ≠ 0 → σ1 q = σ q) → σ1 0 12 = nI o1 → o1 < 8 → u1 < 8 → G.length = u1 → σ1 0 13 = nI (u1 + 1) → (o0 + H.length) % 8 = (o1 + u1) % 8 → (∀ i x, G[i]? = some x → pgS (fun q k => σ 1 (195 * ((o1 + i) % 8) + (xoff q + k))) x ∧ lvS σ x) → kp H s = G ++ [s] →
      ∃ σ', fX11_remember_c52 (nI (195 * ((o0 + H.length) % 8))) σ1 = some σ' ∧ RX σ' (kp H s, s, tx) ∧ ∀ q, q ≠ 0 → q ≠ 1 → σ' q = σ q := by
    intro σ1 o1 u1 G hq h12 ho1 hu1 hG h13 hP hGk hkp
    obtain ⟨σ', a1, a2, a3⟩ := X_rem (σ := σ1) (P := 195 * ((o0 + H.length) % 8)) (by omega)
    have b : ∀ q, q ≠ 0 → q ≠ 1 → σ' q = σ q := fun q h0 h1 => (a2 q h1).trans (hq q h0)
    have b0 : σ' 0 = σ1 0 := a2 0 (by decide)
    refine ⟨σ', a1, ⟨pgS.cong hp (fun q k hk => by rw [b q (by rintro rfl; unfold xseg at hk; omega) (by rintro rfl; unfold xseg at hk; omega)]), pair_cells hl b, ⟨kp_get h8, ?_, o1, ho1, by rw [b0]; exact h12, ?_⟩, by rw [b 39 (by decide) (by decide), b 40 (by decide) (by decide)]; exact hbk, by unfold RXt; rw [b 49 (by decide) (by decide), b 50 (by decide) (by decide)]; exact ht⟩, b⟩
    · rw [b0, h13]; show nI (u1 + 1) = nI (kp H s).length; rw [hkp, List.length_append, hG]; rfl
    · intro i x hi
      have hi : (kp H s)[i]? = some x := hi
      rw [hkp] at hi
      by_cases hi2 : i < u1
      · rw [List.getElem?_append_left (by omega)] at hi
        obtain ⟨g1, g2⟩ := hGk i x hi
        refine ⟨pgS.cong g1 (fun q k hk => ?_), pair_cells g2 b⟩
        have := (x_pgat σ hk).2
        rw [a3, if_neg (by omega), hq 1 (by decide)]
      · have hi3 : i = u1 := by
          have := (List.getElem?_eq_some_iff.mp hi).1
          rw [List.length_append, List.length_singleton] at this
          omega
        subst hi3
        rw [List.getElem?_append_right (by omega), hG, Nat.sub_self] at hi
        cases hi
        refine ⟨pgS.cong hp (fun q k hk => ?_), pair_cells hl b⟩
        have e := x_pgat σ1 hk
        rw [a3, ← hP, if_pos (by omega), show 195 * ((o0 + H.length) % 8) + (xoff q + k) - 195 * ((o0 + H.length) % 8) = xoff q + k by omega, e.1, hq q (by rintro rfl; unfold xseg at hk; omega)]
  unfold fX11_remember
  rw [xl_t, hv]
  by_cases hf : H.length = 8
  · rw [if_pos (by rw [ha, hf]; decide), xp_t]
    refine main _ ((o0 + 1) % 8) 7 H.tail (fun q h0 => xu_ne _ _ _ h0) ?_ (by omega) (by decide) (by rw [List.length_tail]; omega) ?_ (by omega) ?_ (by unfold kp; rw [if_neg (by omega)])
    · rw [xu_at, upd_at, ho, nI_1, show (8 : Int32) = nI 8 from rfl, nI_rem (by omega) (by decide) (by decide)]
    · rw [xu_at, upd_ne _ _ (by decide), ha, hf]
    · intro i x hi
      rw [List.getElem?_tail] at hi
      have := hh (i + 1) x hi
      rw [show ((o0 + 1) % 8 + i) % 8 = (o0 + (i + 1)) % 8 by omega]
      exact this
  · rw [if_neg (by rw [ha]; exact nI_ge (a := H.length) (b := 8) (by omega) (by decide)), xp_t]
    refine main _ o0 H.length H (fun q h0 => xu_ne _ _ _ h0) ?_ ho8 (by omega) rfl ?_ rfl hh (by unfold kp; rw [if_pos (by omega)])
    · rw [xu_at, upd_ne _ _ (by decide), ho]
    · rw [xu_at, upd_at, ha]; exact nI_1 _
/-- how many there can be -/
def caps (s : sS) : Prop := cR s ≤ 6 ∧ cD s ≤ 20 ∧ cS s ≤ 7 ∧ (∀ r, r < 6 → cN s r ≤ 60) ∧ (∀ k, k < cD s → (s (103 + k)).toNatClampNeg < cR s) ∧ s 5 = nI (cR s) ∧ s 6 = nI (cD s) ∧ s 7 = nI (cS s) ∧ ∀ r, r < 6 → s (259 + r) = nI (cN s r)
theorem cR_ne (s : sS) {j : Nat} (v : Int32) (h : j ≠ 5) : cR (upd s j v) = cR s := by unfold cR; rw [upd_ne _ _ (fun h9 => h h9.symm)]
theorem cD_ne (s : sS) {j : Nat} (v : Int32) (h : j ≠ 6) : cD (upd s j v) = cD s := by unfold cD; rw [upd_ne _ _ (fun h9 => h h9.symm)]
theorem cS_ne (s : sS) {j : Nat} (v : Int32) (h : j ≠ 7) : cS (upd s j v) = cS s := by unfold cS; rw [upd_ne _ _ (fun h9 => h h9.symm)]
theorem cN_ne (s : sS) (r : Nat) {j : Nat} (v : Int32) (h : j ≠ 259 + r) : cN (upd s j v) r = cN s r := by unfold cN; rw [upd_ne _ _ (fun h9 => h h9.symm)]
theorem X_set_grams {σ : xSt} {H : List sS} {s : sS} {tx : (Nat → Int32) × Nat} (h : RX σ (H, s, tx)) (hc : caps s) {k : Nat} (hk : k < 8) (v : Int32) : RX (xu σ 3 k v) (H, upd s (11 + k) v, tx) := by
  have h : pgS σ s ∧ lvS σ s ∧ RXh σ H ∧ (σ 39 7 = 0 ∧ σ 40 7 = 0) ∧ RXt σ tx := h
  show pgS (xu σ 3 k v) (upd s (11 + k) v) ∧ lvS (xu σ 3 k v) (upd s (11 + k) v) ∧ RXh (xu σ 3 k v) H ∧ (xu σ 3 k v 39 7 = 0 ∧ xu σ 3 k v 40 7 = 0) ∧ RXt (xu σ 3 k v) tx
  obtain ⟨⟨hgrams, hcame, hsold, hgone, hnrec, hwait, hparts, hndough, hpoints, hstate, hshaped, hwent, htick, hwarmth, hdecks, hheat, hsetHeat, hbreads, hstrength, hcost, hcap, hncount, hnshop⟩, ⟨lpiece, llow, lhigh, liheat, lallerg, ldrec, ldpieces, lsx, lsy, lsopen, lsclose, lsstay, ldg, lnote⟩, ⟨h8, ha, o0, ho8, ho, hh⟩, hbk, ht⟩ := h
  obtain ⟨hcap_cR, hcap_cD, hcap_cS, hcap_cN, hrec, -⟩ := hc
  have eR : cR (upd s (11 + k) v) = cR s := cR_ne s v (by omega)
  have eD : cD (upd s (11 + k) v) = cD s := cD_ne s v (by omega)
  have eS : cS (upd s (11 + k) v) = cS s := cS_ne s v (by omega)
  refine ⟨⟨?_, ?_, ?_, ?_, ?_, ?_, ?_, ?_, ?_, ?_, ?_, ?_, ?_, ?_, ?_, ?_, ?_, ?_, ?_, ?_, ?_, ?_, ?_⟩, ⟨?_, ?_, ?_, ?_, ?_, ?_, ?_, ?_, ?_, ?_, ?_, ?_, ?_, ?_⟩, ⟨h8, ?_, o0, ho8, ?_, fun i x hi => ?_⟩, ?_, ?_⟩
  · intro k' hk'
    rw [xu_at]
    by_cases e : k' = k
    · subst e; rw [upd_at, upd_at]
    · rw [upd_ne _ _ e, upd_ne _ _ (by omega)]; exact hgrams k' hk'
  · rw [xu_ne _ _ _ (by decide), upd_ne s v (by omega)]; exact hcame
  · rw [xu_ne _ _ _ (by decide), upd_ne s v (by omega)]; exact hsold
  · rw [xu_ne _ _ _ (by decide), upd_ne s v (by omega)]; exact hgone
  · rw [xu_ne _ _ _ (by decide), upd_ne s v (by omega)]; exact hnrec
  · intro k' hk'
    rw [xu_ne _ _ _ (by decide), eR, upd_ne s v (by omega)]; exact hwait k' hk'
  · intro k' hk'
    rw [xu_ne _ _ _ (by decide), upd_ne s v (by omega)]; exact hparts k' hk'
  · rw [xu_ne _ _ _ (by decide), upd_ne s v (by omega)]; exact hndough
  · intro k' hk'
    rw [xu_ne _ _ _ (by decide), upd_ne s v (by omega)]; exact hpoints k' hk'
  · intro k' hk'
    rw [xu_ne _ _ _ (by decide), upd_ne s v (by omega)]; exact hstate k' hk'
  · intro k' hk'
    rw [xu_ne _ _ _ (by decide), upd_ne s v (by omega)]; exact hshaped k' hk'
  · intro k' hk'
    rw [xu_ne _ _ _ (by decide), upd_ne s v (by omega)]; exact hwent k' hk'
  · rw [xu_ne _ _ _ (by decide), upd_ne s v (by omega)]; exact htick
  · rw [xu_ne _ _ _ (by decide), upd_ne s v (by omega)]; exact hwarmth
  · rw [xu_ne _ _ _ (by decide), upd_ne s v (by omega)]; exact hdecks
  · rw [xu_ne _ _ _ (by decide), upd_ne s v (by omega)]; exact hheat
  · rw [xu_ne _ _ _ (by decide), upd_ne s v (by omega)]; exact hsetHeat
  · intro k' hk'
    rw [xu_ne _ _ _ (by decide), upd_ne s v (by omega)]; exact hbreads k' hk'
  · intro k' hk'
    rw [xu_ne _ _ _ (by decide), upd_ne s v (by omega)]; exact hstrength k' hk'
  · intro k' hk'
    rw [xu_ne _ _ _ (by decide), upd_ne s v (by omega)]; exact hcost k' hk'
  · intro k' hk'
    rw [xu_ne _ _ _ (by decide), upd_ne s v (by omega)]; exact hcap k' hk'
  · intro k' hk'
    rw [xu_ne _ _ _ (by decide), upd_ne s v (by omega)]; exact hncount k' hk'
  · rw [xu_ne _ _ _ (by decide), upd_ne s v (by omega)]; exact hnshop
  · intro k' hk'
    rw [eR] at hk'
    have hb := hcap_cR
    rw [xu_ne _ _ _ (by decide), upd_ne s v (by omega)]; exact lpiece k' hk'
  · intro k' hk'
    rw [eR] at hk'
    have hb := hcap_cR
    rw [xu_ne _ _ _ (by decide), upd_ne s v (by omega)]; exact llow k' hk'
  · intro k' hk'
    rw [eR] at hk'
    have hb := hcap_cR
    rw [xu_ne _ _ _ (by decide), upd_ne s v (by omega)]; exact lhigh k' hk'
  · intro k' hk'
    rw [eR] at hk'
    have hb := hcap_cR
    rw [xu_ne _ _ _ (by decide), upd_ne s v (by omega)]; exact liheat k' hk'
  · intro k' hk'
    rw [eR] at hk'
    have hb := hcap_cR
    rw [xu_ne _ _ _ (by decide), upd_ne s v (by omega)]; exact lallerg k' hk'
  · intro k' hk'
    rw [eD] at hk'
    have hb := hcap_cD
    rw [xu_ne _ _ _ (by decide), upd_ne s v (by omega)]; exact ldrec k' hk'
  · intro k' hk'
    rw [eD] at hk'
    have hb := hcap_cD
    rw [xu_ne _ _ _ (by decide), upd_ne s v (by omega)]; exact ldpieces k' hk'
  · intro k' hk'
    rw [eS] at hk'
    have hb := hcap_cS
    rw [xu_ne _ _ _ (by decide), upd_ne s v (by omega)]; exact lsx k' hk'
  · intro k' hk'
    rw [eS] at hk'
    have hb := hcap_cS
    rw [xu_ne _ _ _ (by decide), upd_ne s v (by omega)]; exact lsy k' hk'
  · intro k' hk'
    rw [eS] at hk'
    have hb := hcap_cS
    rw [xu_ne _ _ _ (by decide), upd_ne s v (by omega)]; exact lsopen k' hk'
  · intro k' hk'
    rw [eS] at hk'
    have hb := hcap_cS
    rw [xu_ne _ _ _ (by decide), upd_ne s v (by omega)]; exact lsclose k' hk'
  · intro k' hk'
    rw [eS] at hk'
    have hb := hcap_cS
    rw [xu_ne _ _ _ (by decide), upd_ne s v (by omega)]; exact lsstay k' hk'
  · intro k' hk'
    rw [eD] at hk'
    have hb := hcap_cD
    have hb2 := hcap_cR
    have hb3 := hrec k' hk'
    rw [xu_ne _ _ _ (by decide), upd_ne s v (k' := 123 + k') (by omega), upd_ne s v (k' := 103 + k') (by omega), upd_ne s v (by omega)]; exact ldg k' hk'
  · intro r hr k' hk'
    rw [cN_ne s r v (by omega)] at hk'
    have hb := hcap_cN r hr
    rw [xu_ne _ _ _ (by decide), upd_ne s v (by omega)]; exact lnote r hr k' hk'
  · rw [xu_ne _ _ _ (by decide)]; exact ha
  · rw [xu_ne _ _ _ (by decide)]; exact ho
  · obtain ⟨g1, g2⟩ := hh i x hi
    refine ⟨by rw [xu_ne _ _ _ (by decide)]; exact g1, lvS.cong g2 (xu_ne _ _ _ (by decide)) (xu_ne _ _ _ (by decide)) (xu_ne _ _ _ (by decide)) (xu_ne _ _ _ (by decide)) (xu_ne _ _ _ (by decide)) (xu_ne _ _ _ (by decide)) (xu_ne _ _ _ (by decide)) (xu_ne _ _ _ (by decide)) (xu_ne _ _ _ (by decide)) (xu_ne _ _ _ (by decide)) (xu_ne _ _ _ (by decide)) (xu_ne _ _ _ (by decide)) (xu_ne _ _ _ (by decide)) (xu_ne _ _ _ (by decide))⟩
  · rw [xu_ne _ _ _ (by decide), xu_ne _ _ _ (by decide)]; exact hbk
  · unfold RXt; rw [xu_ne _ _ _ (by decide), xu_ne _ _ _ (by decide)]; exact ht
theorem X_set_came {σ : xSt} {H : List sS} {s : sS} {tx : (Nat → Int32) × Nat} (h : RX σ (H, s, tx)) (hc : caps s) (v : Int32) : RX (xu σ 2 1 v) (H, upd s 8 v, tx) := by
  have h : pgS σ s ∧ lvS σ s ∧ RXh σ H ∧ (σ 39 7 = 0 ∧ σ 40 7 = 0) ∧ RXt σ tx := h
  show pgS (xu σ 2 1 v) (upd s 8 v) ∧ lvS (xu σ 2 1 v) (upd s 8 v) ∧ RXh (xu σ 2 1 v) H ∧ (xu σ 2 1 v 39 7 = 0 ∧ xu σ 2 1 v 40 7 = 0) ∧ RXt (xu σ 2 1 v) tx
  obtain ⟨⟨hgrams, hcame, hsold, hgone, hnrec, hwait, hparts, hndough, hpoints, hstate, hshaped, hwent, htick, hwarmth, hdecks, hheat, hsetHeat, hbreads, hstrength, hcost, hcap, hncount, hnshop⟩, ⟨lpiece, llow, lhigh, liheat, lallerg, ldrec, ldpieces, lsx, lsy, lsopen, lsclose, lsstay, ldg, lnote⟩, ⟨h8, ha, o0, ho8, ho, hh⟩, hbk, ht⟩ := h
  obtain ⟨hcap_cR, hcap_cD, hcap_cS, hcap_cN, hrec, -⟩ := hc
  have eR : cR (upd s 8 v) = cR s := cR_ne s v (by omega)
  have eD : cD (upd s 8 v) = cD s := cD_ne s v (by omega)
  have eS : cS (upd s 8 v) = cS s := cS_ne s v (by omega)
  refine ⟨⟨?_, ?_, ?_, ?_, ?_, ?_, ?_, ?_, ?_, ?_, ?_, ?_, ?_, ?_, ?_, ?_, ?_, ?_, ?_, ?_, ?_, ?_, ?_⟩, ⟨?_, ?_, ?_, ?_, ?_, ?_, ?_, ?_, ?_, ?_, ?_, ?_, ?_, ?_⟩, ⟨h8, ?_, o0, ho8, ?_, fun i x hi => ?_⟩, ?_, ?_⟩
  · intro k' hk'
    rw [xu_ne _ _ _ (by decide), upd_ne s v (by omega)]; exact hgrams k' hk'
  · rw [xu_at, upd_at, upd_at]
  · rw [xu_at, upd_ne _ _ (by decide), upd_ne s v (by omega)]; exact hsold
  · rw [xu_at, upd_ne _ _ (by decide), upd_ne s v (by omega)]; exact hgone
  · rw [xu_ne _ _ _ (by decide), upd_ne s v (by omega)]; exact hnrec
  · intro k' hk'
    rw [xu_ne _ _ _ (by decide), eR, upd_ne s v (by omega)]; exact hwait k' hk'
  · intro k' hk'
    rw [xu_ne _ _ _ (by decide), upd_ne s v (by omega)]; exact hparts k' hk'
  · rw [xu_ne _ _ _ (by decide), upd_ne s v (by omega)]; exact hndough
  · intro k' hk'
    rw [xu_ne _ _ _ (by decide), upd_ne s v (by omega)]; exact hpoints k' hk'
  · intro k' hk'
    rw [xu_ne _ _ _ (by decide), upd_ne s v (by omega)]; exact hstate k' hk'
  · intro k' hk'
    rw [xu_ne _ _ _ (by decide), upd_ne s v (by omega)]; exact hshaped k' hk'
  · intro k' hk'
    rw [xu_ne _ _ _ (by decide), upd_ne s v (by omega)]; exact hwent k' hk'
  · rw [xu_ne _ _ _ (by decide), upd_ne s v (by omega)]; exact htick
  · rw [xu_ne _ _ _ (by decide), upd_ne s v (by omega)]; exact hwarmth
  · rw [xu_ne _ _ _ (by decide), upd_ne s v (by omega)]; exact hdecks
  · rw [xu_ne _ _ _ (by decide), upd_ne s v (by omega)]; exact hheat
  · rw [xu_ne _ _ _ (by decide), upd_ne s v (by omega)]; exact hsetHeat
  · intro k' hk'
    rw [xu_ne _ _ _ (by decide), upd_ne s v (by omega)]; exact hbreads k' hk'
  · intro k' hk'
    rw [xu_ne _ _ _ (by decide), upd_ne s v (by omega)]; exact hstrength k' hk'
  · intro k' hk'
    rw [xu_ne _ _ _ (by decide), upd_ne s v (by omega)]; exact hcost k' hk'
  · intro k' hk'
    rw [xu_ne _ _ _ (by decide), upd_ne s v (by omega)]; exact hcap k' hk'
  · intro k' hk'
    rw [xu_ne _ _ _ (by decide), upd_ne s v (by omega)]; exact hncount k' hk'
  · rw [xu_ne _ _ _ (by decide), upd_ne s v (by omega)]; exact hnshop
  · intro k' hk'
    rw [eR] at hk'
    have hb := hcap_cR
    rw [xu_ne _ _ _ (by decide), upd_ne s v (by omega)]; exact lpiece k' hk'
  · intro k' hk'
    rw [eR] at hk'
    have hb := hcap_cR
    rw [xu_ne _ _ _ (by decide), upd_ne s v (by omega)]; exact llow k' hk'
  · intro k' hk'
    rw [eR] at hk'
    have hb := hcap_cR
    rw [xu_ne _ _ _ (by decide), upd_ne s v (by omega)]; exact lhigh k' hk'
  · intro k' hk'
    rw [eR] at hk'
    have hb := hcap_cR
    rw [xu_ne _ _ _ (by decide), upd_ne s v (by omega)]; exact liheat k' hk'
  · intro k' hk'
    rw [eR] at hk'
    have hb := hcap_cR
    rw [xu_ne _ _ _ (by decide), upd_ne s v (by omega)]; exact lallerg k' hk'
  · intro k' hk'
    rw [eD] at hk'
    have hb := hcap_cD
    rw [xu_ne _ _ _ (by decide), upd_ne s v (by omega)]; exact ldrec k' hk'
  · intro k' hk'
    rw [eD] at hk'
    have hb := hcap_cD
    rw [xu_ne _ _ _ (by decide), upd_ne s v (by omega)]; exact ldpieces k' hk'
  · intro k' hk'
    rw [eS] at hk'
    have hb := hcap_cS
    rw [xu_ne _ _ _ (by decide), upd_ne s v (by omega)]; exact lsx k' hk'
  · intro k' hk'
    rw [eS] at hk'
    have hb := hcap_cS
    rw [xu_ne _ _ _ (by decide), upd_ne s v (by omega)]; exact lsy k' hk'
  · intro k' hk'
    rw [eS] at hk'
    have hb := hcap_cS
    rw [xu_ne _ _ _ (by decide), upd_ne s v (by omega)]; exact lsopen k' hk'
  · intro k' hk'
    rw [eS] at hk'
    have hb := hcap_cS
    rw [xu_ne _ _ _ (by decide), upd_ne s v (by omega)]; exact lsclose k' hk'
  · intro k' hk'
    rw [eS] at hk'
    have hb := hcap_cS
    rw [xu_ne _ _ _ (by decide), upd_ne s v (by omega)]; exact lsstay k' hk'
  · intro k' hk'
    rw [eD] at hk'
    have hb := hcap_cD
    have hb2 := hcap_cR
    have hb3 := hrec k' hk'
    rw [xu_ne _ _ _ (by decide), upd_ne s v (k' := 123 + k') (by omega), upd_ne s v (k' := 103 + k') (by omega), upd_ne s v (by omega)]; exact ldg k' hk'
  · intro r hr k' hk'
    rw [cN_ne s r v (by omega)] at hk'
    have hb := hcap_cN r hr
    rw [xu_ne _ _ _ (by decide), upd_ne s v (by omega)]; exact lnote r hr k' hk'
  · rw [xu_ne _ _ _ (by decide)]; exact ha
  · rw [xu_ne _ _ _ (by decide)]; exact ho
  · obtain ⟨g1, g2⟩ := hh i x hi
    refine ⟨by rw [xu_ne _ _ _ (by decide)]; exact g1, lvS.cong g2 (xu_ne _ _ _ (by decide)) (xu_ne _ _ _ (by decide)) (xu_ne _ _ _ (by decide)) (xu_ne _ _ _ (by decide)) (xu_ne _ _ _ (by decide)) (xu_ne _ _ _ (by decide)) (xu_ne _ _ _ (by decide)) (xu_ne _ _ _ (by decide)) (xu_ne _ _ _ (by decide)) (xu_ne _ _ _ (by decide)) (xu_ne _ _ _ (by decide)) (xu_ne _ _ _ (by decide)) (xu_ne _ _ _ (by decide)) (xu_ne _ _ _ (by decide))⟩
  · rw [xu_ne _ _ _ (by decide), xu_ne _ _ _ (by decide)]; exact hbk
  · unfold RXt; rw [xu_ne _ _ _ (by decide), xu_ne _ _ _ (by decide)]; exact ht
theorem X_set_sold {σ : xSt} {H : List sS} {s : sS} {tx : (Nat → Int32) × Nat} (h : RX σ (H, s, tx)) (hc : caps s) (v : Int32) : RX (xu σ 2 2 v) (H, upd s 9 v, tx) := by
  have h : pgS σ s ∧ lvS σ s ∧ RXh σ H ∧ (σ 39 7 = 0 ∧ σ 40 7 = 0) ∧ RXt σ tx := h
  show pgS (xu σ 2 2 v) (upd s 9 v) ∧ lvS (xu σ 2 2 v) (upd s 9 v) ∧ RXh (xu σ 2 2 v) H ∧ (xu σ 2 2 v 39 7 = 0 ∧ xu σ 2 2 v 40 7 = 0) ∧ RXt (xu σ 2 2 v) tx
  obtain ⟨⟨hgrams, hcame, hsold, hgone, hnrec, hwait, hparts, hndough, hpoints, hstate, hshaped, hwent, htick, hwarmth, hdecks, hheat, hsetHeat, hbreads, hstrength, hcost, hcap, hncount, hnshop⟩, ⟨lpiece, llow, lhigh, liheat, lallerg, ldrec, ldpieces, lsx, lsy, lsopen, lsclose, lsstay, ldg, lnote⟩, ⟨h8, ha, o0, ho8, ho, hh⟩, hbk, ht⟩ := h
  obtain ⟨hcap_cR, hcap_cD, hcap_cS, hcap_cN, hrec, -⟩ := hc
  have eR : cR (upd s 9 v) = cR s := cR_ne s v (by omega)
  have eD : cD (upd s 9 v) = cD s := cD_ne s v (by omega)
  have eS : cS (upd s 9 v) = cS s := cS_ne s v (by omega)
  refine ⟨⟨?_, ?_, ?_, ?_, ?_, ?_, ?_, ?_, ?_, ?_, ?_, ?_, ?_, ?_, ?_, ?_, ?_, ?_, ?_, ?_, ?_, ?_, ?_⟩, ⟨?_, ?_, ?_, ?_, ?_, ?_, ?_, ?_, ?_, ?_, ?_, ?_, ?_, ?_⟩, ⟨h8, ?_, o0, ho8, ?_, fun i x hi => ?_⟩, ?_, ?_⟩
  · intro k' hk'
    rw [xu_ne _ _ _ (by decide), upd_ne s v (by omega)]; exact hgrams k' hk'
  · rw [xu_at, upd_ne _ _ (by decide), upd_ne s v (by omega)]; exact hcame
  · rw [xu_at, upd_at, upd_at]
  · rw [xu_at, upd_ne _ _ (by decide), upd_ne s v (by omega)]; exact hgone
  · rw [xu_ne _ _ _ (by decide), upd_ne s v (by omega)]; exact hnrec
  · intro k' hk'
    rw [xu_ne _ _ _ (by decide), eR, upd_ne s v (by omega)]; exact hwait k' hk'
  · intro k' hk'
    rw [xu_ne _ _ _ (by decide), upd_ne s v (by omega)]; exact hparts k' hk'
  · rw [xu_ne _ _ _ (by decide), upd_ne s v (by omega)]; exact hndough
  · intro k' hk'
    rw [xu_ne _ _ _ (by decide), upd_ne s v (by omega)]; exact hpoints k' hk'
  · intro k' hk'
    rw [xu_ne _ _ _ (by decide), upd_ne s v (by omega)]; exact hstate k' hk'
  · intro k' hk'
    rw [xu_ne _ _ _ (by decide), upd_ne s v (by omega)]; exact hshaped k' hk'
  · intro k' hk'
    rw [xu_ne _ _ _ (by decide), upd_ne s v (by omega)]; exact hwent k' hk'
  · rw [xu_ne _ _ _ (by decide), upd_ne s v (by omega)]; exact htick
  · rw [xu_ne _ _ _ (by decide), upd_ne s v (by omega)]; exact hwarmth
  · rw [xu_ne _ _ _ (by decide), upd_ne s v (by omega)]; exact hdecks
  · rw [xu_ne _ _ _ (by decide), upd_ne s v (by omega)]; exact hheat
  · rw [xu_ne _ _ _ (by decide), upd_ne s v (by omega)]; exact hsetHeat
  · intro k' hk'
    rw [xu_ne _ _ _ (by decide), upd_ne s v (by omega)]; exact hbreads k' hk'
  · intro k' hk'
    rw [xu_ne _ _ _ (by decide), upd_ne s v (by omega)]; exact hstrength k' hk'
  · intro k' hk'
    rw [xu_ne _ _ _ (by decide), upd_ne s v (by omega)]; exact hcost k' hk'
  · intro k' hk'
    rw [xu_ne _ _ _ (by decide), upd_ne s v (by omega)]; exact hcap k' hk'
  · intro k' hk'
    rw [xu_ne _ _ _ (by decide), upd_ne s v (by omega)]; exact hncount k' hk'
  · rw [xu_ne _ _ _ (by decide), upd_ne s v (by omega)]; exact hnshop
  · intro k' hk'
    rw [eR] at hk'
    have hb := hcap_cR
    rw [xu_ne _ _ _ (by decide), upd_ne s v (by omega)]; exact lpiece k' hk'
  · intro k' hk'
    rw [eR] at hk'
    have hb := hcap_cR
    rw [xu_ne _ _ _ (by decide), upd_ne s v (by omega)]; exact llow k' hk'
  · intro k' hk'
    rw [eR] at hk'
    have hb := hcap_cR
    rw [xu_ne _ _ _ (by decide), upd_ne s v (by omega)]; exact lhigh k' hk'
  · intro k' hk'
    rw [eR] at hk'
    have hb := hcap_cR
    rw [xu_ne _ _ _ (by decide), upd_ne s v (by omega)]; exact liheat k' hk'
  · intro k' hk'
    rw [eR] at hk'
    have hb := hcap_cR
    rw [xu_ne _ _ _ (by decide), upd_ne s v (by omega)]; exact lallerg k' hk'
  · intro k' hk'
    rw [eD] at hk'
    have hb := hcap_cD
    rw [xu_ne _ _ _ (by decide), upd_ne s v (by omega)]; exact ldrec k' hk'
  · intro k' hk'
    rw [eD] at hk'
    have hb := hcap_cD
    rw [xu_ne _ _ _ (by decide), upd_ne s v (by omega)]; exact ldpieces k' hk'
  · intro k' hk'
    rw [eS] at hk'
    have hb := hcap_cS
    rw [xu_ne _ _ _ (by decide), upd_ne s v (by omega)]; exact lsx k' hk'
  · intro k' hk'
    rw [eS] at hk'
    have hb := hcap_cS
    rw [xu_ne _ _ _ (by decide), upd_ne s v (by omega)]; exact lsy k' hk'
  · intro k' hk'
    rw [eS] at hk'
    have hb := hcap_cS
    rw [xu_ne _ _ _ (by decide), upd_ne s v (by omega)]; exact lsopen k' hk'
  · intro k' hk'
    rw [eS] at hk'
    have hb := hcap_cS
    rw [xu_ne _ _ _ (by decide), upd_ne s v (by omega)]; exact lsclose k' hk'
  · intro k' hk'
    rw [eS] at hk'
    have hb := hcap_cS
    rw [xu_ne _ _ _ (by decide), upd_ne s v (by omega)]; exact lsstay k' hk'
  · intro k' hk'
    rw [eD] at hk'
    have hb := hcap_cD
    have hb2 := hcap_cR
    have hb3 := hrec k' hk'
    rw [xu_ne _ _ _ (by decide), upd_ne s v (k' := 123 + k') (by omega), upd_ne s v (k' := 103 + k') (by omega), upd_ne s v (by omega)]; exact ldg k' hk'
  · intro r hr k' hk'
    rw [cN_ne s r v (by omega)] at hk'
    have hb := hcap_cN r hr
    rw [xu_ne _ _ _ (by decide), upd_ne s v (by omega)]; exact lnote r hr k' hk'
  · rw [xu_ne _ _ _ (by decide)]; exact ha
  · rw [xu_ne _ _ _ (by decide)]; exact ho
  · obtain ⟨g1, g2⟩ := hh i x hi
    refine ⟨by rw [xu_ne _ _ _ (by decide)]; exact g1, lvS.cong g2 (xu_ne _ _ _ (by decide)) (xu_ne _ _ _ (by decide)) (xu_ne _ _ _ (by decide)) (xu_ne _ _ _ (by decide)) (xu_ne _ _ _ (by decide)) (xu_ne _ _ _ (by decide)) (xu_ne _ _ _ (by decide)) (xu_ne _ _ _ (by decide)) (xu_ne _ _ _ (by decide)) (xu_ne _ _ _ (by decide)) (xu_ne _ _ _ (by decide)) (xu_ne _ _ _ (by decide)) (xu_ne _ _ _ (by decide)) (xu_ne _ _ _ (by decide))⟩
  · rw [xu_ne _ _ _ (by decide), xu_ne _ _ _ (by decide)]; exact hbk
  · unfold RXt; rw [xu_ne _ _ _ (by decide), xu_ne _ _ _ (by decide)]; exact ht
theorem X_set_gone {σ : xSt} {H : List sS} {s : sS} {tx : (Nat → Int32) × Nat} (h : RX σ (H, s, tx)) (hc : caps s) (v : Int32) : RX (xu σ 2 3 v) (H, upd s 10 v, tx) := by
  have h : pgS σ s ∧ lvS σ s ∧ RXh σ H ∧ (σ 39 7 = 0 ∧ σ 40 7 = 0) ∧ RXt σ tx := h
  show pgS (xu σ 2 3 v) (upd s 10 v) ∧ lvS (xu σ 2 3 v) (upd s 10 v) ∧ RXh (xu σ 2 3 v) H ∧ (xu σ 2 3 v 39 7 = 0 ∧ xu σ 2 3 v 40 7 = 0) ∧ RXt (xu σ 2 3 v) tx
  obtain ⟨⟨hgrams, hcame, hsold, hgone, hnrec, hwait, hparts, hndough, hpoints, hstate, hshaped, hwent, htick, hwarmth, hdecks, hheat, hsetHeat, hbreads, hstrength, hcost, hcap, hncount, hnshop⟩, ⟨lpiece, llow, lhigh, liheat, lallerg, ldrec, ldpieces, lsx, lsy, lsopen, lsclose, lsstay, ldg, lnote⟩, ⟨h8, ha, o0, ho8, ho, hh⟩, hbk, ht⟩ := h
  obtain ⟨hcap_cR, hcap_cD, hcap_cS, hcap_cN, hrec, -⟩ := hc
  have eR : cR (upd s 10 v) = cR s := cR_ne s v (by omega)
  have eD : cD (upd s 10 v) = cD s := cD_ne s v (by omega)
  have eS : cS (upd s 10 v) = cS s := cS_ne s v (by omega)
  refine ⟨⟨?_, ?_, ?_, ?_, ?_, ?_, ?_, ?_, ?_, ?_, ?_, ?_, ?_, ?_, ?_, ?_, ?_, ?_, ?_, ?_, ?_, ?_, ?_⟩, ⟨?_, ?_, ?_, ?_, ?_, ?_, ?_, ?_, ?_, ?_, ?_, ?_, ?_, ?_⟩, ⟨h8, ?_, o0, ho8, ?_, fun i x hi => ?_⟩, ?_, ?_⟩
  · intro k' hk'
    rw [xu_ne _ _ _ (by decide), upd_ne s v (by omega)]; exact hgrams k' hk'
  · rw [xu_at, upd_ne _ _ (by decide), upd_ne s v (by omega)]; exact hcame
  · rw [xu_at, upd_ne _ _ (by decide), upd_ne s v (by omega)]; exact hsold
  · rw [xu_at, upd_at, upd_at]
  · rw [xu_ne _ _ _ (by decide), upd_ne s v (by omega)]; exact hnrec
  · intro k' hk'
    rw [xu_ne _ _ _ (by decide), eR, upd_ne s v (by omega)]; exact hwait k' hk'
  · intro k' hk'
    rw [xu_ne _ _ _ (by decide), upd_ne s v (by omega)]; exact hparts k' hk'
  · rw [xu_ne _ _ _ (by decide), upd_ne s v (by omega)]; exact hndough
  · intro k' hk'
    rw [xu_ne _ _ _ (by decide), upd_ne s v (by omega)]; exact hpoints k' hk'
  · intro k' hk'
    rw [xu_ne _ _ _ (by decide), upd_ne s v (by omega)]; exact hstate k' hk'
  · intro k' hk'
    rw [xu_ne _ _ _ (by decide), upd_ne s v (by omega)]; exact hshaped k' hk'
  · intro k' hk'
    rw [xu_ne _ _ _ (by decide), upd_ne s v (by omega)]; exact hwent k' hk'
  · rw [xu_ne _ _ _ (by decide), upd_ne s v (by omega)]; exact htick
  · rw [xu_ne _ _ _ (by decide), upd_ne s v (by omega)]; exact hwarmth
  · rw [xu_ne _ _ _ (by decide), upd_ne s v (by omega)]; exact hdecks
  · rw [xu_ne _ _ _ (by decide), upd_ne s v (by omega)]; exact hheat
  · rw [xu_ne _ _ _ (by decide), upd_ne s v (by omega)]; exact hsetHeat
  · intro k' hk'
    rw [xu_ne _ _ _ (by decide), upd_ne s v (by omega)]; exact hbreads k' hk'
  · intro k' hk'
    rw [xu_ne _ _ _ (by decide), upd_ne s v (by omega)]; exact hstrength k' hk'
  · intro k' hk'
    rw [xu_ne _ _ _ (by decide), upd_ne s v (by omega)]; exact hcost k' hk'
  · intro k' hk'
    rw [xu_ne _ _ _ (by decide), upd_ne s v (by omega)]; exact hcap k' hk'
  · intro k' hk'
    rw [xu_ne _ _ _ (by decide), upd_ne s v (by omega)]; exact hncount k' hk'
  · rw [xu_ne _ _ _ (by decide), upd_ne s v (by omega)]; exact hnshop
  · intro k' hk'
    rw [eR] at hk'
    have hb := hcap_cR
    rw [xu_ne _ _ _ (by decide), upd_ne s v (by omega)]; exact lpiece k' hk'
  · intro k' hk'
    rw [eR] at hk'
    have hb := hcap_cR
    rw [xu_ne _ _ _ (by decide), upd_ne s v (by omega)]; exact llow k' hk'
  · intro k' hk'
    rw [eR] at hk'
    have hb := hcap_cR
    rw [xu_ne _ _ _ (by decide), upd_ne s v (by omega)]; exact lhigh k' hk'
  · intro k' hk'
    rw [eR] at hk'
    have hb := hcap_cR
    rw [xu_ne _ _ _ (by decide), upd_ne s v (by omega)]; exact liheat k' hk'
  · intro k' hk'
    rw [eR] at hk'
    have hb := hcap_cR
    rw [xu_ne _ _ _ (by decide), upd_ne s v (by omega)]; exact lallerg k' hk'
  · intro k' hk'
    rw [eD] at hk'
    have hb := hcap_cD
    rw [xu_ne _ _ _ (by decide), upd_ne s v (by omega)]; exact ldrec k' hk'
  · intro k' hk'
    rw [eD] at hk'
    have hb := hcap_cD
    rw [xu_ne _ _ _ (by decide), upd_ne s v (by omega)]; exact ldpieces k' hk'
  · intro k' hk'
    rw [eS] at hk'
    have hb := hcap_cS
    rw [xu_ne _ _ _ (by decide), upd_ne s v (by omega)]; exact lsx k' hk'
  · intro k' hk'
    rw [eS] at hk'
    have hb := hcap_cS
    rw [xu_ne _ _ _ (by decide), upd_ne s v (by omega)]; exact lsy k' hk'
  · intro k' hk'
    rw [eS] at hk'
    have hb := hcap_cS
    rw [xu_ne _ _ _ (by decide), upd_ne s v (by omega)]; exact lsopen k' hk'
  · intro k' hk'
    rw [eS] at hk'
    have hb := hcap_cS
    rw [xu_ne _ _ _ (by decide), upd_ne s v (by omega)]; exact lsclose k' hk'
  · intro k' hk'
    rw [eS] at hk'
    have hb := hcap_cS
    rw [xu_ne _ _ _ (by decide), upd_ne s v (by omega)]; exact lsstay k' hk'
  · intro k' hk'
    rw [eD] at hk'
    have hb := hcap_cD
    have hb2 := hcap_cR
    have hb3 := hrec k' hk'
    rw [xu_ne _ _ _ (by decide), upd_ne s v (k' := 123 + k') (by omega), upd_ne s v (k' := 103 + k') (by omega), upd_ne s v (by omega)]; exact ldg k' hk'
  · intro r hr k' hk'
    rw [cN_ne s r v (by omega)] at hk'
    have hb := hcap_cN r hr
    rw [xu_ne _ _ _ (by decide), upd_ne s v (by omega)]; exact lnote r hr k' hk'
  · rw [xu_ne _ _ _ (by decide)]; exact ha
  · rw [xu_ne _ _ _ (by decide)]; exact ho
  · obtain ⟨g1, g2⟩ := hh i x hi
    refine ⟨by rw [xu_ne _ _ _ (by decide)]; exact g1, lvS.cong g2 (xu_ne _ _ _ (by decide)) (xu_ne _ _ _ (by decide)) (xu_ne _ _ _ (by decide)) (xu_ne _ _ _ (by decide)) (xu_ne _ _ _ (by decide)) (xu_ne _ _ _ (by decide)) (xu_ne _ _ _ (by decide)) (xu_ne _ _ _ (by decide)) (xu_ne _ _ _ (by decide)) (xu_ne _ _ _ (by decide)) (xu_ne _ _ _ (by decide)) (xu_ne _ _ _ (by decide)) (xu_ne _ _ _ (by decide)) (xu_ne _ _ _ (by decide))⟩
  · rw [xu_ne _ _ _ (by decide), xu_ne _ _ _ (by decide)]; exact hbk
  · unfold RXt; rw [xu_ne _ _ _ (by decide), xu_ne _ _ _ (by decide)]; exact ht
theorem X_set_parts {σ : xSt} {H : List sS} {s : sS} {tx : (Nat → Int32) × Nat} (h : RX σ (H, s, tx)) (hc : caps s) {k : Nat} (hk : k < 48) (v : Int32) : RX (xu σ 11 k v) (H, upd s (55 + k) v, tx) := by
  have h : pgS σ s ∧ lvS σ s ∧ RXh σ H ∧ (σ 39 7 = 0 ∧ σ 40 7 = 0) ∧ RXt σ tx := h
  show pgS (xu σ 11 k v) (upd s (55 + k) v) ∧ lvS (xu σ 11 k v) (upd s (55 + k) v) ∧ RXh (xu σ 11 k v) H ∧ (xu σ 11 k v 39 7 = 0 ∧ xu σ 11 k v 40 7 = 0) ∧ RXt (xu σ 11 k v) tx
  obtain ⟨⟨hgrams, hcame, hsold, hgone, hnrec, hwait, hparts, hndough, hpoints, hstate, hshaped, hwent, htick, hwarmth, hdecks, hheat, hsetHeat, hbreads, hstrength, hcost, hcap, hncount, hnshop⟩, ⟨lpiece, llow, lhigh, liheat, lallerg, ldrec, ldpieces, lsx, lsy, lsopen, lsclose, lsstay, ldg, lnote⟩, ⟨h8, ha, o0, ho8, ho, hh⟩, hbk, ht⟩ := h
  obtain ⟨hcap_cR, hcap_cD, hcap_cS, hcap_cN, hrec, -⟩ := hc
  have eR : cR (upd s (55 + k) v) = cR s := cR_ne s v (by omega)
  have eD : cD (upd s (55 + k) v) = cD s := cD_ne s v (by omega)
  have eS : cS (upd s (55 + k) v) = cS s := cS_ne s v (by omega)
  refine ⟨⟨?_, ?_, ?_, ?_, ?_, ?_, ?_, ?_, ?_, ?_, ?_, ?_, ?_, ?_, ?_, ?_, ?_, ?_, ?_, ?_, ?_, ?_, ?_⟩, ⟨?_, ?_, ?_, ?_, ?_, ?_, ?_, ?_, ?_, ?_, ?_, ?_, ?_, ?_⟩, ⟨h8, ?_, o0, ho8, ?_, fun i x hi => ?_⟩, ?_, ?_⟩
  · intro k' hk'
    rw [xu_ne _ _ _ (by decide), upd_ne s v (by omega)]; exact hgrams k' hk'
  · rw [xu_ne _ _ _ (by decide), upd_ne s v (by omega)]; exact hcame
  · rw [xu_ne _ _ _ (by decide), upd_ne s v (by omega)]; exact hsold
  · rw [xu_ne _ _ _ (by decide), upd_ne s v (by omega)]; exact hgone
  · rw [xu_ne _ _ _ (by decide), upd_ne s v (by omega)]; exact hnrec
  · intro k' hk'
    rw [xu_ne _ _ _ (by decide), eR, upd_ne s v (by omega)]; exact hwait k' hk'
  · intro k' hk'
    rw [xu_at]
    by_cases e : k' = k
    · subst e; rw [upd_at, upd_at]
    · rw [upd_ne _ _ e, upd_ne _ _ (by omega)]; exact hparts k' hk'
  · rw [xu_ne _ _ _ (by decide), upd_ne s v (by omega)]; exact hndough
  · intro k' hk'
    rw [xu_ne _ _ _ (by decide), upd_ne s v (by omega)]; exact hpoints k' hk'
  · intro k' hk'
    rw [xu_ne _ _ _ (by decide), upd_ne s v (by omega)]; exact hstate k' hk'
  · intro k' hk'
    rw [xu_ne _ _ _ (by decide), upd_ne s v (by omega)]; exact hshaped k' hk'
  · intro k' hk'
    rw [xu_ne _ _ _ (by decide), upd_ne s v (by omega)]; exact hwent k' hk'
  · rw [xu_ne _ _ _ (by decide), upd_ne s v (by omega)]; exact htick
  · rw [xu_ne _ _ _ (by decide), upd_ne s v (by omega)]; exact hwarmth
  · rw [xu_ne _ _ _ (by decide), upd_ne s v (by omega)]; exact hdecks
  · rw [xu_ne _ _ _ (by decide), upd_ne s v (by omega)]; exact hheat
  · rw [xu_ne _ _ _ (by decide), upd_ne s v (by omega)]; exact hsetHeat
  · intro k' hk'
    rw [xu_ne _ _ _ (by decide), upd_ne s v (by omega)]; exact hbreads k' hk'
  · intro k' hk'
    rw [xu_ne _ _ _ (by decide), upd_ne s v (by omega)]; exact hstrength k' hk'
  · intro k' hk'
    rw [xu_ne _ _ _ (by decide), upd_ne s v (by omega)]; exact hcost k' hk'
  · intro k' hk'
    rw [xu_ne _ _ _ (by decide), upd_ne s v (by omega)]; exact hcap k' hk'
  · intro k' hk'
    rw [xu_ne _ _ _ (by decide), upd_ne s v (by omega)]; exact hncount k' hk'
  · rw [xu_ne _ _ _ (by decide), upd_ne s v (by omega)]; exact hnshop
  · intro k' hk'
    rw [eR] at hk'
    have hb := hcap_cR
    rw [xu_ne _ _ _ (by decide), upd_ne s v (by omega)]; exact lpiece k' hk'
  · intro k' hk'
    rw [eR] at hk'
    have hb := hcap_cR
    rw [xu_ne _ _ _ (by decide), upd_ne s v (by omega)]; exact llow k' hk'
  · intro k' hk'
    rw [eR] at hk'
    have hb := hcap_cR
    rw [xu_ne _ _ _ (by decide), upd_ne s v (by omega)]; exact lhigh k' hk'
  · intro k' hk'
    rw [eR] at hk'
    have hb := hcap_cR
    rw [xu_ne _ _ _ (by decide), upd_ne s v (by omega)]; exact liheat k' hk'
  · intro k' hk'
    rw [eR] at hk'
    have hb := hcap_cR
    rw [xu_ne _ _ _ (by decide), upd_ne s v (by omega)]; exact lallerg k' hk'
  · intro k' hk'
    rw [eD] at hk'
    have hb := hcap_cD
    rw [xu_ne _ _ _ (by decide), upd_ne s v (by omega)]; exact ldrec k' hk'
  · intro k' hk'
    rw [eD] at hk'
    have hb := hcap_cD
    rw [xu_ne _ _ _ (by decide), upd_ne s v (by omega)]; exact ldpieces k' hk'
  · intro k' hk'
    rw [eS] at hk'
    have hb := hcap_cS
    rw [xu_ne _ _ _ (by decide), upd_ne s v (by omega)]; exact lsx k' hk'
  · intro k' hk'
    rw [eS] at hk'
    have hb := hcap_cS
    rw [xu_ne _ _ _ (by decide), upd_ne s v (by omega)]; exact lsy k' hk'
  · intro k' hk'
    rw [eS] at hk'
    have hb := hcap_cS
    rw [xu_ne _ _ _ (by decide), upd_ne s v (by omega)]; exact lsopen k' hk'
  · intro k' hk'
    rw [eS] at hk'
    have hb := hcap_cS
    rw [xu_ne _ _ _ (by decide), upd_ne s v (by omega)]; exact lsclose k' hk'
  · intro k' hk'
    rw [eS] at hk'
    have hb := hcap_cS
    rw [xu_ne _ _ _ (by decide), upd_ne s v (by omega)]; exact lsstay k' hk'
  · intro k' hk'
    rw [eD] at hk'
    have hb := hcap_cD
    have hb2 := hcap_cR
    have hb3 := hrec k' hk'
    rw [xu_ne _ _ _ (by decide), upd_ne s v (k' := 123 + k') (by omega), upd_ne s v (k' := 103 + k') (by omega), upd_ne s v (by omega)]; exact ldg k' hk'
  · intro r hr k' hk'
    rw [cN_ne s r v (by omega)] at hk'
    have hb := hcap_cN r hr
    rw [xu_ne _ _ _ (by decide), upd_ne s v (by omega)]; exact lnote r hr k' hk'
  · rw [xu_ne _ _ _ (by decide)]; exact ha
  · rw [xu_ne _ _ _ (by decide)]; exact ho
  · obtain ⟨g1, g2⟩ := hh i x hi
    refine ⟨by rw [xu_ne _ _ _ (by decide)]; exact g1, lvS.cong g2 (xu_ne _ _ _ (by decide)) (xu_ne _ _ _ (by decide)) (xu_ne _ _ _ (by decide)) (xu_ne _ _ _ (by decide)) (xu_ne _ _ _ (by decide)) (xu_ne _ _ _ (by decide)) (xu_ne _ _ _ (by decide)) (xu_ne _ _ _ (by decide)) (xu_ne _ _ _ (by decide)) (xu_ne _ _ _ (by decide)) (xu_ne _ _ _ (by decide)) (xu_ne _ _ _ (by decide)) (xu_ne _ _ _ (by decide)) (xu_ne _ _ _ (by decide))⟩
  · rw [xu_ne _ _ _ (by decide), xu_ne _ _ _ (by decide)]; exact hbk
  · unfold RXt; rw [xu_ne _ _ _ (by decide), xu_ne _ _ _ (by decide)]; exact ht
theorem X_set_points {σ : xSt} {H : List sS} {s : sS} {tx : (Nat → Int32) × Nat} (h : RX σ (H, s, tx)) (hc : caps s) {k : Nat} (hk : k < 20) (v : Int32) : RX (xu σ 16 k v) (H, upd s (143 + k) v, tx) := by
  have h : pgS σ s ∧ lvS σ s ∧ RXh σ H ∧ (σ 39 7 = 0 ∧ σ 40 7 = 0) ∧ RXt σ tx := h
  show pgS (xu σ 16 k v) (upd s (143 + k) v) ∧ lvS (xu σ 16 k v) (upd s (143 + k) v) ∧ RXh (xu σ 16 k v) H ∧ (xu σ 16 k v 39 7 = 0 ∧ xu σ 16 k v 40 7 = 0) ∧ RXt (xu σ 16 k v) tx
  obtain ⟨⟨hgrams, hcame, hsold, hgone, hnrec, hwait, hparts, hndough, hpoints, hstate, hshaped, hwent, htick, hwarmth, hdecks, hheat, hsetHeat, hbreads, hstrength, hcost, hcap, hncount, hnshop⟩, ⟨lpiece, llow, lhigh, liheat, lallerg, ldrec, ldpieces, lsx, lsy, lsopen, lsclose, lsstay, ldg, lnote⟩, ⟨h8, ha, o0, ho8, ho, hh⟩, hbk, ht⟩ := h
  obtain ⟨hcap_cR, hcap_cD, hcap_cS, hcap_cN, hrec, -⟩ := hc
  have eR : cR (upd s (143 + k) v) = cR s := cR_ne s v (by omega)
  have eD : cD (upd s (143 + k) v) = cD s := cD_ne s v (by omega)
  have eS : cS (upd s (143 + k) v) = cS s := cS_ne s v (by omega)
  refine ⟨⟨?_, ?_, ?_, ?_, ?_, ?_, ?_, ?_, ?_, ?_, ?_, ?_, ?_, ?_, ?_, ?_, ?_, ?_, ?_, ?_, ?_, ?_, ?_⟩, ⟨?_, ?_, ?_, ?_, ?_, ?_, ?_, ?_, ?_, ?_, ?_, ?_, ?_, ?_⟩, ⟨h8, ?_, o0, ho8, ?_, fun i x hi => ?_⟩, ?_, ?_⟩
  · intro k' hk'
    rw [xu_ne _ _ _ (by decide), upd_ne s v (by omega)]; exact hgrams k' hk'
  · rw [xu_ne _ _ _ (by decide), upd_ne s v (by omega)]; exact hcame
  · rw [xu_ne _ _ _ (by decide), upd_ne s v (by omega)]; exact hsold
  · rw [xu_ne _ _ _ (by decide), upd_ne s v (by omega)]; exact hgone
  · rw [xu_ne _ _ _ (by decide), upd_ne s v (by omega)]; exact hnrec
  · intro k' hk'
    rw [xu_ne _ _ _ (by decide), eR, upd_ne s v (by omega)]; exact hwait k' hk'
  · intro k' hk'
    rw [xu_ne _ _ _ (by decide), upd_ne s v (by omega)]; exact hparts k' hk'
  · rw [xu_ne _ _ _ (by decide), upd_ne s v (by omega)]; exact hndough
  · intro k' hk'
    rw [xu_at]
    by_cases e : k' = k
    · subst e; rw [upd_at, upd_at]
    · rw [upd_ne _ _ e, upd_ne _ _ (by omega)]; exact hpoints k' hk'
  · intro k' hk'
    rw [xu_ne _ _ _ (by decide), upd_ne s v (by omega)]; exact hstate k' hk'
  · intro k' hk'
    rw [xu_ne _ _ _ (by decide), upd_ne s v (by omega)]; exact hshaped k' hk'
  · intro k' hk'
    rw [xu_ne _ _ _ (by decide), upd_ne s v (by omega)]; exact hwent k' hk'
  · rw [xu_ne _ _ _ (by decide), upd_ne s v (by omega)]; exact htick
  · rw [xu_ne _ _ _ (by decide), upd_ne s v (by omega)]; exact hwarmth
  · rw [xu_ne _ _ _ (by decide), upd_ne s v (by omega)]; exact hdecks
  · rw [xu_ne _ _ _ (by decide), upd_ne s v (by omega)]; exact hheat
  · rw [xu_ne _ _ _ (by decide), upd_ne s v (by omega)]; exact hsetHeat
  · intro k' hk'
    rw [xu_ne _ _ _ (by decide), upd_ne s v (by omega)]; exact hbreads k' hk'
  · intro k' hk'
    rw [xu_ne _ _ _ (by decide), upd_ne s v (by omega)]; exact hstrength k' hk'
  · intro k' hk'
    rw [xu_ne _ _ _ (by decide), upd_ne s v (by omega)]; exact hcost k' hk'
  · intro k' hk'
    rw [xu_ne _ _ _ (by decide), upd_ne s v (by omega)]; exact hcap k' hk'
  · intro k' hk'
    rw [xu_ne _ _ _ (by decide), upd_ne s v (by omega)]; exact hncount k' hk'
  · rw [xu_ne _ _ _ (by decide), upd_ne s v (by omega)]; exact hnshop
  · intro k' hk'
    rw [eR] at hk'
    have hb := hcap_cR
    rw [xu_ne _ _ _ (by decide), upd_ne s v (by omega)]; exact lpiece k' hk'
  · intro k' hk'
    rw [eR] at hk'
    have hb := hcap_cR
    rw [xu_ne _ _ _ (by decide), upd_ne s v (by omega)]; exact llow k' hk'
  · intro k' hk'
    rw [eR] at hk'
    have hb := hcap_cR
    rw [xu_ne _ _ _ (by decide), upd_ne s v (by omega)]; exact lhigh k' hk'
  · intro k' hk'
    rw [eR] at hk'
    have hb := hcap_cR
    rw [xu_ne _ _ _ (by decide), upd_ne s v (by omega)]; exact liheat k' hk'
  · intro k' hk'
    rw [eR] at hk'
    have hb := hcap_cR
    rw [xu_ne _ _ _ (by decide), upd_ne s v (by omega)]; exact lallerg k' hk'
  · intro k' hk'
    rw [eD] at hk'
    have hb := hcap_cD
    rw [xu_ne _ _ _ (by decide), upd_ne s v (by omega)]; exact ldrec k' hk'
  · intro k' hk'
    rw [eD] at hk'
    have hb := hcap_cD
    rw [xu_ne _ _ _ (by decide), upd_ne s v (by omega)]; exact ldpieces k' hk'
  · intro k' hk'
    rw [eS] at hk'
    have hb := hcap_cS
    rw [xu_ne _ _ _ (by decide), upd_ne s v (by omega)]; exact lsx k' hk'
  · intro k' hk'
    rw [eS] at hk'
    have hb := hcap_cS
    rw [xu_ne _ _ _ (by decide), upd_ne s v (by omega)]; exact lsy k' hk'
  · intro k' hk'
    rw [eS] at hk'
    have hb := hcap_cS
    rw [xu_ne _ _ _ (by decide), upd_ne s v (by omega)]; exact lsopen k' hk'
  · intro k' hk'
    rw [eS] at hk'
    have hb := hcap_cS
    rw [xu_ne _ _ _ (by decide), upd_ne s v (by omega)]; exact lsclose k' hk'
  · intro k' hk'
    rw [eS] at hk'
    have hb := hcap_cS
    rw [xu_ne _ _ _ (by decide), upd_ne s v (by omega)]; exact lsstay k' hk'
  · intro k' hk'
    rw [eD] at hk'
    have hb := hcap_cD
    have hb2 := hcap_cR
    have hb3 := hrec k' hk'
    rw [xu_ne _ _ _ (by decide), upd_ne s v (k' := 123 + k') (by omega), upd_ne s v (k' := 103 + k') (by omega), upd_ne s v (by omega)]; exact ldg k' hk'
  · intro r hr k' hk'
    rw [cN_ne s r v (by omega)] at hk'
    have hb := hcap_cN r hr
    rw [xu_ne _ _ _ (by decide), upd_ne s v (by omega)]; exact lnote r hr k' hk'
  · rw [xu_ne _ _ _ (by decide)]; exact ha
  · rw [xu_ne _ _ _ (by decide)]; exact ho
  · obtain ⟨g1, g2⟩ := hh i x hi
    refine ⟨by rw [xu_ne _ _ _ (by decide)]; exact g1, lvS.cong g2 (xu_ne _ _ _ (by decide)) (xu_ne _ _ _ (by decide)) (xu_ne _ _ _ (by decide)) (xu_ne _ _ _ (by decide)) (xu_ne _ _ _ (by decide)) (xu_ne _ _ _ (by decide)) (xu_ne _ _ _ (by decide)) (xu_ne _ _ _ (by decide)) (xu_ne _ _ _ (by decide)) (xu_ne _ _ _ (by decide)) (xu_ne _ _ _ (by decide)) (xu_ne _ _ _ (by decide)) (xu_ne _ _ _ (by decide)) (xu_ne _ _ _ (by decide))⟩
  · rw [xu_ne _ _ _ (by decide), xu_ne _ _ _ (by decide)]; exact hbk
  · unfold RXt; rw [xu_ne _ _ _ (by decide), xu_ne _ _ _ (by decide)]; exact ht
theorem X_set_state {σ : xSt} {H : List sS} {s : sS} {tx : (Nat → Int32) × Nat} (h : RX σ (H, s, tx)) (hc : caps s) {k : Nat} (hk : k < 20) (v : Int32) : RX (xu σ 17 k v) (H, upd s (163 + k) v, tx) := by
  have h : pgS σ s ∧ lvS σ s ∧ RXh σ H ∧ (σ 39 7 = 0 ∧ σ 40 7 = 0) ∧ RXt σ tx := h
  show pgS (xu σ 17 k v) (upd s (163 + k) v) ∧ lvS (xu σ 17 k v) (upd s (163 + k) v) ∧ RXh (xu σ 17 k v) H ∧ (xu σ 17 k v 39 7 = 0 ∧ xu σ 17 k v 40 7 = 0) ∧ RXt (xu σ 17 k v) tx
  obtain ⟨⟨hgrams, hcame, hsold, hgone, hnrec, hwait, hparts, hndough, hpoints, hstate, hshaped, hwent, htick, hwarmth, hdecks, hheat, hsetHeat, hbreads, hstrength, hcost, hcap, hncount, hnshop⟩, ⟨lpiece, llow, lhigh, liheat, lallerg, ldrec, ldpieces, lsx, lsy, lsopen, lsclose, lsstay, ldg, lnote⟩, ⟨h8, ha, o0, ho8, ho, hh⟩, hbk, ht⟩ := h
  obtain ⟨hcap_cR, hcap_cD, hcap_cS, hcap_cN, hrec, -⟩ := hc
  have eR : cR (upd s (163 + k) v) = cR s := cR_ne s v (by omega)
  have eD : cD (upd s (163 + k) v) = cD s := cD_ne s v (by omega)
  have eS : cS (upd s (163 + k) v) = cS s := cS_ne s v (by omega)
  refine ⟨⟨?_, ?_, ?_, ?_, ?_, ?_, ?_, ?_, ?_, ?_, ?_, ?_, ?_, ?_, ?_, ?_, ?_, ?_, ?_, ?_, ?_, ?_, ?_⟩, ⟨?_, ?_, ?_, ?_, ?_, ?_, ?_, ?_, ?_, ?_, ?_, ?_, ?_, ?_⟩, ⟨h8, ?_, o0, ho8, ?_, fun i x hi => ?_⟩, ?_, ?_⟩
  · intro k' hk'
    rw [xu_ne _ _ _ (by decide), upd_ne s v (by omega)]; exact hgrams k' hk'
  · rw [xu_ne _ _ _ (by decide), upd_ne s v (by omega)]; exact hcame
  · rw [xu_ne _ _ _ (by decide), upd_ne s v (by omega)]; exact hsold
  · rw [xu_ne _ _ _ (by decide), upd_ne s v (by omega)]; exact hgone
  · rw [xu_ne _ _ _ (by decide), upd_ne s v (by omega)]; exact hnrec
  · intro k' hk'
    rw [xu_ne _ _ _ (by decide), eR, upd_ne s v (by omega)]; exact hwait k' hk'
  · intro k' hk'
    rw [xu_ne _ _ _ (by decide), upd_ne s v (by omega)]; exact hparts k' hk'
  · rw [xu_ne _ _ _ (by decide), upd_ne s v (by omega)]; exact hndough
  · intro k' hk'
    rw [xu_ne _ _ _ (by decide), upd_ne s v (by omega)]; exact hpoints k' hk'
  · intro k' hk'
    rw [xu_at]
    by_cases e : k' = k
    · subst e; rw [upd_at, upd_at]
    · rw [upd_ne _ _ e, upd_ne _ _ (by omega)]; exact hstate k' hk'
  · intro k' hk'
    rw [xu_ne _ _ _ (by decide), upd_ne s v (by omega)]; exact hshaped k' hk'
  · intro k' hk'
    rw [xu_ne _ _ _ (by decide), upd_ne s v (by omega)]; exact hwent k' hk'
  · rw [xu_ne _ _ _ (by decide), upd_ne s v (by omega)]; exact htick
  · rw [xu_ne _ _ _ (by decide), upd_ne s v (by omega)]; exact hwarmth
  · rw [xu_ne _ _ _ (by decide), upd_ne s v (by omega)]; exact hdecks
  · rw [xu_ne _ _ _ (by decide), upd_ne s v (by omega)]; exact hheat
  · rw [xu_ne _ _ _ (by decide), upd_ne s v (by omega)]; exact hsetHeat
  · intro k' hk'
    rw [xu_ne _ _ _ (by decide), upd_ne s v (by omega)]; exact hbreads k' hk'
  · intro k' hk'
    rw [xu_ne _ _ _ (by decide), upd_ne s v (by omega)]; exact hstrength k' hk'
  · intro k' hk'
    rw [xu_ne _ _ _ (by decide), upd_ne s v (by omega)]; exact hcost k' hk'
  · intro k' hk'
    rw [xu_ne _ _ _ (by decide), upd_ne s v (by omega)]; exact hcap k' hk'
  · intro k' hk'
    rw [xu_ne _ _ _ (by decide), upd_ne s v (by omega)]; exact hncount k' hk'
  · rw [xu_ne _ _ _ (by decide), upd_ne s v (by omega)]; exact hnshop
  · intro k' hk'
    rw [eR] at hk'
    have hb := hcap_cR
    rw [xu_ne _ _ _ (by decide), upd_ne s v (by omega)]; exact lpiece k' hk'
  · intro k' hk'
    rw [eR] at hk'
    have hb := hcap_cR
    rw [xu_ne _ _ _ (by decide), upd_ne s v (by omega)]; exact llow k' hk'
  · intro k' hk'
    rw [eR] at hk'
    have hb := hcap_cR
    rw [xu_ne _ _ _ (by decide), upd_ne s v (by omega)]; exact lhigh k' hk'
  · intro k' hk'
    rw [eR] at hk'
    have hb := hcap_cR
    rw [xu_ne _ _ _ (by decide), upd_ne s v (by omega)]; exact liheat k' hk'
  · intro k' hk'
    rw [eR] at hk'
    have hb := hcap_cR
    rw [xu_ne _ _ _ (by decide), upd_ne s v (by omega)]; exact lallerg k' hk'
  · intro k' hk'
    rw [eD] at hk'
    have hb := hcap_cD
    rw [xu_ne _ _ _ (by decide), upd_ne s v (by omega)]; exact ldrec k' hk'
  · intro k' hk'
    rw [eD] at hk'
    have hb := hcap_cD
    rw [xu_ne _ _ _ (by decide), upd_ne s v (by omega)]; exact ldpieces k' hk'
  · intro k' hk'
    rw [eS] at hk'
    have hb := hcap_cS
    rw [xu_ne _ _ _ (by decide), upd_ne s v (by omega)]; exact lsx k' hk'
  · intro k' hk'
    rw [eS] at hk'
    have hb := hcap_cS
    rw [xu_ne _ _ _ (by decide), upd_ne s v (by omega)]; exact lsy k' hk'
  · intro k' hk'
    rw [eS] at hk'
    have hb := hcap_cS
    rw [xu_ne _ _ _ (by decide), upd_ne s v (by omega)]; exact lsopen k' hk'
  · intro k' hk'
    rw [eS] at hk'
    have hb := hcap_cS
    rw [xu_ne _ _ _ (by decide), upd_ne s v (by omega)]; exact lsclose k' hk'
  · intro k' hk'
    rw [eS] at hk'
    have hb := hcap_cS
    rw [xu_ne _ _ _ (by decide), upd_ne s v (by omega)]; exact lsstay k' hk'
  · intro k' hk'
    rw [eD] at hk'
    have hb := hcap_cD
    have hb2 := hcap_cR
    have hb3 := hrec k' hk'
    rw [xu_ne _ _ _ (by decide), upd_ne s v (k' := 123 + k') (by omega), upd_ne s v (k' := 103 + k') (by omega), upd_ne s v (by omega)]; exact ldg k' hk'
  · intro r hr k' hk'
    rw [cN_ne s r v (by omega)] at hk'
    have hb := hcap_cN r hr
    rw [xu_ne _ _ _ (by decide), upd_ne s v (by omega)]; exact lnote r hr k' hk'
  · rw [xu_ne _ _ _ (by decide)]; exact ha
  · rw [xu_ne _ _ _ (by decide)]; exact ho
  · obtain ⟨g1, g2⟩ := hh i x hi
    refine ⟨by rw [xu_ne _ _ _ (by decide)]; exact g1, lvS.cong g2 (xu_ne _ _ _ (by decide)) (xu_ne _ _ _ (by decide)) (xu_ne _ _ _ (by decide)) (xu_ne _ _ _ (by decide)) (xu_ne _ _ _ (by decide)) (xu_ne _ _ _ (by decide)) (xu_ne _ _ _ (by decide)) (xu_ne _ _ _ (by decide)) (xu_ne _ _ _ (by decide)) (xu_ne _ _ _ (by decide)) (xu_ne _ _ _ (by decide)) (xu_ne _ _ _ (by decide)) (xu_ne _ _ _ (by decide)) (xu_ne _ _ _ (by decide))⟩
  · rw [xu_ne _ _ _ (by decide), xu_ne _ _ _ (by decide)]; exact hbk
  · unfold RXt; rw [xu_ne _ _ _ (by decide), xu_ne _ _ _ (by decide)]; exact ht
theorem X_set_shaped {σ : xSt} {H : List sS} {s : sS} {tx : (Nat → Int32) × Nat} (h : RX σ (H, s, tx)) (hc : caps s) {k : Nat} (hk : k < 20) (v : Int32) : RX (xu σ 18 k v) (H, upd s (183 + k) v, tx) := by
  have h : pgS σ s ∧ lvS σ s ∧ RXh σ H ∧ (σ 39 7 = 0 ∧ σ 40 7 = 0) ∧ RXt σ tx := h
  show pgS (xu σ 18 k v) (upd s (183 + k) v) ∧ lvS (xu σ 18 k v) (upd s (183 + k) v) ∧ RXh (xu σ 18 k v) H ∧ (xu σ 18 k v 39 7 = 0 ∧ xu σ 18 k v 40 7 = 0) ∧ RXt (xu σ 18 k v) tx
  obtain ⟨⟨hgrams, hcame, hsold, hgone, hnrec, hwait, hparts, hndough, hpoints, hstate, hshaped, hwent, htick, hwarmth, hdecks, hheat, hsetHeat, hbreads, hstrength, hcost, hcap, hncount, hnshop⟩, ⟨lpiece, llow, lhigh, liheat, lallerg, ldrec, ldpieces, lsx, lsy, lsopen, lsclose, lsstay, ldg, lnote⟩, ⟨h8, ha, o0, ho8, ho, hh⟩, hbk, ht⟩ := h
  obtain ⟨hcap_cR, hcap_cD, hcap_cS, hcap_cN, hrec, -⟩ := hc
  have eR : cR (upd s (183 + k) v) = cR s := cR_ne s v (by omega)
  have eD : cD (upd s (183 + k) v) = cD s := cD_ne s v (by omega)
  have eS : cS (upd s (183 + k) v) = cS s := cS_ne s v (by omega)
  refine ⟨⟨?_, ?_, ?_, ?_, ?_, ?_, ?_, ?_, ?_, ?_, ?_, ?_, ?_, ?_, ?_, ?_, ?_, ?_, ?_, ?_, ?_, ?_, ?_⟩, ⟨?_, ?_, ?_, ?_, ?_, ?_, ?_, ?_, ?_, ?_, ?_, ?_, ?_, ?_⟩, ⟨h8, ?_, o0, ho8, ?_, fun i x hi => ?_⟩, ?_, ?_⟩
  · intro k' hk'
    rw [xu_ne _ _ _ (by decide), upd_ne s v (by omega)]; exact hgrams k' hk'
  · rw [xu_ne _ _ _ (by decide), upd_ne s v (by omega)]; exact hcame
  · rw [xu_ne _ _ _ (by decide), upd_ne s v (by omega)]; exact hsold
  · rw [xu_ne _ _ _ (by decide), upd_ne s v (by omega)]; exact hgone
  · rw [xu_ne _ _ _ (by decide), upd_ne s v (by omega)]; exact hnrec
  · intro k' hk'
    rw [xu_ne _ _ _ (by decide), eR, upd_ne s v (by omega)]; exact hwait k' hk'
  · intro k' hk'
    rw [xu_ne _ _ _ (by decide), upd_ne s v (by omega)]; exact hparts k' hk'
  · rw [xu_ne _ _ _ (by decide), upd_ne s v (by omega)]; exact hndough
  · intro k' hk'
    rw [xu_ne _ _ _ (by decide), upd_ne s v (by omega)]; exact hpoints k' hk'
  · intro k' hk'
    rw [xu_ne _ _ _ (by decide), upd_ne s v (by omega)]; exact hstate k' hk'
  · intro k' hk'
    rw [xu_at]
    by_cases e : k' = k
    · subst e; rw [upd_at, upd_at]
    · rw [upd_ne _ _ e, upd_ne _ _ (by omega)]; exact hshaped k' hk'
  · intro k' hk'
    rw [xu_ne _ _ _ (by decide), upd_ne s v (by omega)]; exact hwent k' hk'
  · rw [xu_ne _ _ _ (by decide), upd_ne s v (by omega)]; exact htick
  · rw [xu_ne _ _ _ (by decide), upd_ne s v (by omega)]; exact hwarmth
  · rw [xu_ne _ _ _ (by decide), upd_ne s v (by omega)]; exact hdecks
  · rw [xu_ne _ _ _ (by decide), upd_ne s v (by omega)]; exact hheat
  · rw [xu_ne _ _ _ (by decide), upd_ne s v (by omega)]; exact hsetHeat
  · intro k' hk'
    rw [xu_ne _ _ _ (by decide), upd_ne s v (by omega)]; exact hbreads k' hk'
  · intro k' hk'
    rw [xu_ne _ _ _ (by decide), upd_ne s v (by omega)]; exact hstrength k' hk'
  · intro k' hk'
    rw [xu_ne _ _ _ (by decide), upd_ne s v (by omega)]; exact hcost k' hk'
  · intro k' hk'
    rw [xu_ne _ _ _ (by decide), upd_ne s v (by omega)]; exact hcap k' hk'
  · intro k' hk'
    rw [xu_ne _ _ _ (by decide), upd_ne s v (by omega)]; exact hncount k' hk'
  · rw [xu_ne _ _ _ (by decide), upd_ne s v (by omega)]; exact hnshop
  · intro k' hk'
    rw [eR] at hk'
    have hb := hcap_cR
    rw [xu_ne _ _ _ (by decide), upd_ne s v (by omega)]; exact lpiece k' hk'
  · intro k' hk'
    rw [eR] at hk'
    have hb := hcap_cR
    rw [xu_ne _ _ _ (by decide), upd_ne s v (by omega)]; exact llow k' hk'
  · intro k' hk'
    rw [eR] at hk'
    have hb := hcap_cR
    rw [xu_ne _ _ _ (by decide), upd_ne s v (by omega)]; exact lhigh k' hk'
  · intro k' hk'
    rw [eR] at hk'
    have hb := hcap_cR
    rw [xu_ne _ _ _ (by decide), upd_ne s v (by omega)]; exact liheat k' hk'
  · intro k' hk'
    rw [eR] at hk'
    have hb := hcap_cR
    rw [xu_ne _ _ _ (by decide), upd_ne s v (by omega)]; exact lallerg k' hk'
  · intro k' hk'
    rw [eD] at hk'
    have hb := hcap_cD
    rw [xu_ne _ _ _ (by decide), upd_ne s v (by omega)]; exact ldrec k' hk'
  · intro k' hk'
    rw [eD] at hk'
    have hb := hcap_cD
    rw [xu_ne _ _ _ (by decide), upd_ne s v (by omega)]; exact ldpieces k' hk'
  · intro k' hk'
    rw [eS] at hk'
    have hb := hcap_cS
    rw [xu_ne _ _ _ (by decide), upd_ne s v (by omega)]; exact lsx k' hk'
  · intro k' hk'
    rw [eS] at hk'
    have hb := hcap_cS
    rw [xu_ne _ _ _ (by decide), upd_ne s v (by omega)]; exact lsy k' hk'
  · intro k' hk'
    rw [eS] at hk'
    have hb := hcap_cS
    rw [xu_ne _ _ _ (by decide), upd_ne s v (by omega)]; exact lsopen k' hk'
  · intro k' hk'
    rw [eS] at hk'
    have hb := hcap_cS
    rw [xu_ne _ _ _ (by decide), upd_ne s v (by omega)]; exact lsclose k' hk'
  · intro k' hk'
    rw [eS] at hk'
    have hb := hcap_cS
    rw [xu_ne _ _ _ (by decide), upd_ne s v (by omega)]; exact lsstay k' hk'
  · intro k' hk'
    rw [eD] at hk'
    have hb := hcap_cD
    have hb2 := hcap_cR
    have hb3 := hrec k' hk'
    rw [xu_ne _ _ _ (by decide), upd_ne s v (k' := 123 + k') (by omega), upd_ne s v (k' := 103 + k') (by omega), upd_ne s v (by omega)]; exact ldg k' hk'
  · intro r hr k' hk'
    rw [cN_ne s r v (by omega)] at hk'
    have hb := hcap_cN r hr
    rw [xu_ne _ _ _ (by decide), upd_ne s v (by omega)]; exact lnote r hr k' hk'
  · rw [xu_ne _ _ _ (by decide)]; exact ha
  · rw [xu_ne _ _ _ (by decide)]; exact ho
  · obtain ⟨g1, g2⟩ := hh i x hi
    refine ⟨by rw [xu_ne _ _ _ (by decide)]; exact g1, lvS.cong g2 (xu_ne _ _ _ (by decide)) (xu_ne _ _ _ (by decide)) (xu_ne _ _ _ (by decide)) (xu_ne _ _ _ (by decide)) (xu_ne _ _ _ (by decide)) (xu_ne _ _ _ (by decide)) (xu_ne _ _ _ (by decide)) (xu_ne _ _ _ (by decide)) (xu_ne _ _ _ (by decide)) (xu_ne _ _ _ (by decide)) (xu_ne _ _ _ (by decide)) (xu_ne _ _ _ (by decide)) (xu_ne _ _ _ (by decide)) (xu_ne _ _ _ (by decide))⟩
  · rw [xu_ne _ _ _ (by decide), xu_ne _ _ _ (by decide)]; exact hbk
  · unfold RXt; rw [xu_ne _ _ _ (by decide), xu_ne _ _ _ (by decide)]; exact ht
theorem X_set_went {σ : xSt} {H : List sS} {s : sS} {tx : (Nat → Int32) × Nat} (h : RX σ (H, s, tx)) (hc : caps s) {k : Nat} (hk : k < 20) (v : Int32) : RX (xu σ 19 k v) (H, upd s (203 + k) v, tx) := by
  have h : pgS σ s ∧ lvS σ s ∧ RXh σ H ∧ (σ 39 7 = 0 ∧ σ 40 7 = 0) ∧ RXt σ tx := h
  show pgS (xu σ 19 k v) (upd s (203 + k) v) ∧ lvS (xu σ 19 k v) (upd s (203 + k) v) ∧ RXh (xu σ 19 k v) H ∧ (xu σ 19 k v 39 7 = 0 ∧ xu σ 19 k v 40 7 = 0) ∧ RXt (xu σ 19 k v) tx
  obtain ⟨⟨hgrams, hcame, hsold, hgone, hnrec, hwait, hparts, hndough, hpoints, hstate, hshaped, hwent, htick, hwarmth, hdecks, hheat, hsetHeat, hbreads, hstrength, hcost, hcap, hncount, hnshop⟩, ⟨lpiece, llow, lhigh, liheat, lallerg, ldrec, ldpieces, lsx, lsy, lsopen, lsclose, lsstay, ldg, lnote⟩, ⟨h8, ha, o0, ho8, ho, hh⟩, hbk, ht⟩ := h
  obtain ⟨hcap_cR, hcap_cD, hcap_cS, hcap_cN, hrec, -⟩ := hc
  have eR : cR (upd s (203 + k) v) = cR s := cR_ne s v (by omega)
  have eD : cD (upd s (203 + k) v) = cD s := cD_ne s v (by omega)
  have eS : cS (upd s (203 + k) v) = cS s := cS_ne s v (by omega)
  refine ⟨⟨?_, ?_, ?_, ?_, ?_, ?_, ?_, ?_, ?_, ?_, ?_, ?_, ?_, ?_, ?_, ?_, ?_, ?_, ?_, ?_, ?_, ?_, ?_⟩, ⟨?_, ?_, ?_, ?_, ?_, ?_, ?_, ?_, ?_, ?_, ?_, ?_, ?_, ?_⟩, ⟨h8, ?_, o0, ho8, ?_, fun i x hi => ?_⟩, ?_, ?_⟩
  · intro k' hk'
    rw [xu_ne _ _ _ (by decide), upd_ne s v (by omega)]; exact hgrams k' hk'
  · rw [xu_ne _ _ _ (by decide), upd_ne s v (by omega)]; exact hcame
  · rw [xu_ne _ _ _ (by decide), upd_ne s v (by omega)]; exact hsold
  · rw [xu_ne _ _ _ (by decide), upd_ne s v (by omega)]; exact hgone
  · rw [xu_ne _ _ _ (by decide), upd_ne s v (by omega)]; exact hnrec
  · intro k' hk'
    rw [xu_ne _ _ _ (by decide), eR, upd_ne s v (by omega)]; exact hwait k' hk'
  · intro k' hk'
    rw [xu_ne _ _ _ (by decide), upd_ne s v (by omega)]; exact hparts k' hk'
  · rw [xu_ne _ _ _ (by decide), upd_ne s v (by omega)]; exact hndough
  · intro k' hk'
    rw [xu_ne _ _ _ (by decide), upd_ne s v (by omega)]; exact hpoints k' hk'
  · intro k' hk'
    rw [xu_ne _ _ _ (by decide), upd_ne s v (by omega)]; exact hstate k' hk'
  · intro k' hk'
    rw [xu_ne _ _ _ (by decide), upd_ne s v (by omega)]; exact hshaped k' hk'
  · intro k' hk'
    rw [xu_at]
    by_cases e : k' = k
    · subst e; rw [upd_at, upd_at]
    · rw [upd_ne _ _ e, upd_ne _ _ (by omega)]; exact hwent k' hk'
  · rw [xu_ne _ _ _ (by decide), upd_ne s v (by omega)]; exact htick
  · rw [xu_ne _ _ _ (by decide), upd_ne s v (by omega)]; exact hwarmth
  · rw [xu_ne _ _ _ (by decide), upd_ne s v (by omega)]; exact hdecks
  · rw [xu_ne _ _ _ (by decide), upd_ne s v (by omega)]; exact hheat
  · rw [xu_ne _ _ _ (by decide), upd_ne s v (by omega)]; exact hsetHeat
  · intro k' hk'
    rw [xu_ne _ _ _ (by decide), upd_ne s v (by omega)]; exact hbreads k' hk'
  · intro k' hk'
    rw [xu_ne _ _ _ (by decide), upd_ne s v (by omega)]; exact hstrength k' hk'
  · intro k' hk'
    rw [xu_ne _ _ _ (by decide), upd_ne s v (by omega)]; exact hcost k' hk'
  · intro k' hk'
    rw [xu_ne _ _ _ (by decide), upd_ne s v (by omega)]; exact hcap k' hk'
  · intro k' hk'
    rw [xu_ne _ _ _ (by decide), upd_ne s v (by omega)]; exact hncount k' hk'
  · rw [xu_ne _ _ _ (by decide), upd_ne s v (by omega)]; exact hnshop
  · intro k' hk'
    rw [eR] at hk'
    have hb := hcap_cR
    rw [xu_ne _ _ _ (by decide), upd_ne s v (by omega)]; exact lpiece k' hk'
  · intro k' hk'
    rw [eR] at hk'
    have hb := hcap_cR
    rw [xu_ne _ _ _ (by decide), upd_ne s v (by omega)]; exact llow k' hk'
  · intro k' hk'
    rw [eR] at hk'
    have hb := hcap_cR
    rw [xu_ne _ _ _ (by decide), upd_ne s v (by omega)]; exact lhigh k' hk'
  · intro k' hk'
    rw [eR] at hk'
    have hb := hcap_cR
    rw [xu_ne _ _ _ (by decide), upd_ne s v (by omega)]; exact liheat k' hk'
  · intro k' hk'
    rw [eR] at hk'
    have hb := hcap_cR
    rw [xu_ne _ _ _ (by decide), upd_ne s v (by omega)]; exact lallerg k' hk'
  · intro k' hk'
    rw [eD] at hk'
    have hb := hcap_cD
    rw [xu_ne _ _ _ (by decide), upd_ne s v (by omega)]; exact ldrec k' hk'
  · intro k' hk'
    rw [eD] at hk'
    have hb := hcap_cD
    rw [xu_ne _ _ _ (by decide), upd_ne s v (by omega)]; exact ldpieces k' hk'
  · intro k' hk'
    rw [eS] at hk'
    have hb := hcap_cS
    rw [xu_ne _ _ _ (by decide), upd_ne s v (by omega)]; exact lsx k' hk'
  · intro k' hk'
    rw [eS] at hk'
    have hb := hcap_cS
    rw [xu_ne _ _ _ (by decide), upd_ne s v (by omega)]; exact lsy k' hk'
  · intro k' hk'
    rw [eS] at hk'
    have hb := hcap_cS
    rw [xu_ne _ _ _ (by decide), upd_ne s v (by omega)]; exact lsopen k' hk'
  · intro k' hk'
    rw [eS] at hk'
    have hb := hcap_cS
    rw [xu_ne _ _ _ (by decide), upd_ne s v (by omega)]; exact lsclose k' hk'
  · intro k' hk'
    rw [eS] at hk'
    have hb := hcap_cS
    rw [xu_ne _ _ _ (by decide), upd_ne s v (by omega)]; exact lsstay k' hk'
  · intro k' hk'
    rw [eD] at hk'
    have hb := hcap_cD
    have hb2 := hcap_cR
    have hb3 := hrec k' hk'
    rw [xu_ne _ _ _ (by decide), upd_ne s v (k' := 123 + k') (by omega), upd_ne s v (k' := 103 + k') (by omega), upd_ne s v (by omega)]; exact ldg k' hk'
  · intro r hr k' hk'
    rw [cN_ne s r v (by omega)] at hk'
    have hb := hcap_cN r hr
    rw [xu_ne _ _ _ (by decide), upd_ne s v (by omega)]; exact lnote r hr k' hk'
  · rw [xu_ne _ _ _ (by decide)]; exact ha
  · rw [xu_ne _ _ _ (by decide)]; exact ho
  · obtain ⟨g1, g2⟩ := hh i x hi
    refine ⟨by rw [xu_ne _ _ _ (by decide)]; exact g1, lvS.cong g2 (xu_ne _ _ _ (by decide)) (xu_ne _ _ _ (by decide)) (xu_ne _ _ _ (by decide)) (xu_ne _ _ _ (by decide)) (xu_ne _ _ _ (by decide)) (xu_ne _ _ _ (by decide)) (xu_ne _ _ _ (by decide)) (xu_ne _ _ _ (by decide)) (xu_ne _ _ _ (by decide)) (xu_ne _ _ _ (by decide)) (xu_ne _ _ _ (by decide)) (xu_ne _ _ _ (by decide)) (xu_ne _ _ _ (by decide)) (xu_ne _ _ _ (by decide))⟩
  · rw [xu_ne _ _ _ (by decide), xu_ne _ _ _ (by decide)]; exact hbk
  · unfold RXt; rw [xu_ne _ _ _ (by decide), xu_ne _ _ _ (by decide)]; exact ht
theorem X_set_tick {σ : xSt} {H : List sS} {s : sS} {tx : (Nat → Int32) × Nat} (h : RX σ (H, s, tx)) (hc : caps s) (v : Int32) : RX (xu σ 20 0 v) (H, upd s 0 v, tx) := by
  have h : pgS σ s ∧ lvS σ s ∧ RXh σ H ∧ (σ 39 7 = 0 ∧ σ 40 7 = 0) ∧ RXt σ tx := h
  show pgS (xu σ 20 0 v) (upd s 0 v) ∧ lvS (xu σ 20 0 v) (upd s 0 v) ∧ RXh (xu σ 20 0 v) H ∧ (xu σ 20 0 v 39 7 = 0 ∧ xu σ 20 0 v 40 7 = 0) ∧ RXt (xu σ 20 0 v) tx
  obtain ⟨⟨hgrams, hcame, hsold, hgone, hnrec, hwait, hparts, hndough, hpoints, hstate, hshaped, hwent, htick, hwarmth, hdecks, hheat, hsetHeat, hbreads, hstrength, hcost, hcap, hncount, hnshop⟩, ⟨lpiece, llow, lhigh, liheat, lallerg, ldrec, ldpieces, lsx, lsy, lsopen, lsclose, lsstay, ldg, lnote⟩, ⟨h8, ha, o0, ho8, ho, hh⟩, hbk, ht⟩ := h
  obtain ⟨hcap_cR, hcap_cD, hcap_cS, hcap_cN, hrec, -⟩ := hc
  have eR : cR (upd s 0 v) = cR s := cR_ne s v (by omega)
  have eD : cD (upd s 0 v) = cD s := cD_ne s v (by omega)
  have eS : cS (upd s 0 v) = cS s := cS_ne s v (by omega)
  refine ⟨⟨?_, ?_, ?_, ?_, ?_, ?_, ?_, ?_, ?_, ?_, ?_, ?_, ?_, ?_, ?_, ?_, ?_, ?_, ?_, ?_, ?_, ?_, ?_⟩, ⟨?_, ?_, ?_, ?_, ?_, ?_, ?_, ?_, ?_, ?_, ?_, ?_, ?_, ?_⟩, ⟨h8, ?_, o0, ho8, ?_, fun i x hi => ?_⟩, ?_, ?_⟩
  · intro k' hk'
    rw [xu_ne _ _ _ (by decide), upd_ne s v (by omega)]; exact hgrams k' hk'
  · rw [xu_ne _ _ _ (by decide), upd_ne s v (by omega)]; exact hcame
  · rw [xu_ne _ _ _ (by decide), upd_ne s v (by omega)]; exact hsold
  · rw [xu_ne _ _ _ (by decide), upd_ne s v (by omega)]; exact hgone
  · rw [xu_ne _ _ _ (by decide), upd_ne s v (by omega)]; exact hnrec
  · intro k' hk'
    rw [xu_ne _ _ _ (by decide), eR, upd_ne s v (by omega)]; exact hwait k' hk'
  · intro k' hk'
    rw [xu_ne _ _ _ (by decide), upd_ne s v (by omega)]; exact hparts k' hk'
  · rw [xu_ne _ _ _ (by decide), upd_ne s v (by omega)]; exact hndough
  · intro k' hk'
    rw [xu_ne _ _ _ (by decide), upd_ne s v (by omega)]; exact hpoints k' hk'
  · intro k' hk'
    rw [xu_ne _ _ _ (by decide), upd_ne s v (by omega)]; exact hstate k' hk'
  · intro k' hk'
    rw [xu_ne _ _ _ (by decide), upd_ne s v (by omega)]; exact hshaped k' hk'
  · intro k' hk'
    rw [xu_ne _ _ _ (by decide), upd_ne s v (by omega)]; exact hwent k' hk'
  · rw [xu_at, upd_at, upd_at]
  · rw [xu_at, upd_ne _ _ (by decide), upd_ne s v (by omega)]; exact hwarmth
  · rw [xu_at, upd_ne _ _ (by decide), upd_ne s v (by omega)]; exact hdecks
  · rw [xu_at, upd_ne _ _ (by decide), upd_ne s v (by omega)]; exact hheat
  · rw [xu_at, upd_ne _ _ (by decide), upd_ne s v (by omega)]; exact hsetHeat
  · intro k' hk'
    rw [xu_ne _ _ _ (by decide), upd_ne s v (by omega)]; exact hbreads k' hk'
  · intro k' hk'
    rw [xu_ne _ _ _ (by decide), upd_ne s v (by omega)]; exact hstrength k' hk'
  · intro k' hk'
    rw [xu_ne _ _ _ (by decide), upd_ne s v (by omega)]; exact hcost k' hk'
  · intro k' hk'
    rw [xu_ne _ _ _ (by decide), upd_ne s v (by omega)]; exact hcap k' hk'
  · intro k' hk'
    rw [xu_ne _ _ _ (by decide), upd_ne s v (by omega)]; exact hncount k' hk'
  · rw [xu_ne _ _ _ (by decide), upd_ne s v (by omega)]; exact hnshop
  · intro k' hk'
    rw [eR] at hk'
    have hb := hcap_cR
    rw [xu_ne _ _ _ (by decide), upd_ne s v (by omega)]; exact lpiece k' hk'
  · intro k' hk'
    rw [eR] at hk'
    have hb := hcap_cR
    rw [xu_ne _ _ _ (by decide), upd_ne s v (by omega)]; exact llow k' hk'
  · intro k' hk'
    rw [eR] at hk'
    have hb := hcap_cR
    rw [xu_ne _ _ _ (by decide), upd_ne s v (by omega)]; exact lhigh k' hk'
  · intro k' hk'
    rw [eR] at hk'
    have hb := hcap_cR
    rw [xu_ne _ _ _ (by decide), upd_ne s v (by omega)]; exact liheat k' hk'
  · intro k' hk'
    rw [eR] at hk'
    have hb := hcap_cR
    rw [xu_ne _ _ _ (by decide), upd_ne s v (by omega)]; exact lallerg k' hk'
  · intro k' hk'
    rw [eD] at hk'
    have hb := hcap_cD
    rw [xu_ne _ _ _ (by decide), upd_ne s v (by omega)]; exact ldrec k' hk'
  · intro k' hk'
    rw [eD] at hk'
    have hb := hcap_cD
    rw [xu_ne _ _ _ (by decide), upd_ne s v (by omega)]; exact ldpieces k' hk'
  · intro k' hk'
    rw [eS] at hk'
    have hb := hcap_cS
    rw [xu_ne _ _ _ (by decide), upd_ne s v (by omega)]; exact lsx k' hk'
  · intro k' hk'
    rw [eS] at hk'
    have hb := hcap_cS
    rw [xu_ne _ _ _ (by decide), upd_ne s v (by omega)]; exact lsy k' hk'
  · intro k' hk'
    rw [eS] at hk'
    have hb := hcap_cS
    rw [xu_ne _ _ _ (by decide), upd_ne s v (by omega)]; exact lsopen k' hk'
  · intro k' hk'
    rw [eS] at hk'
    have hb := hcap_cS
    rw [xu_ne _ _ _ (by decide), upd_ne s v (by omega)]; exact lsclose k' hk'
  · intro k' hk'
    rw [eS] at hk'
    have hb := hcap_cS
    rw [xu_ne _ _ _ (by decide), upd_ne s v (by omega)]; exact lsstay k' hk'
  · intro k' hk'
    rw [eD] at hk'
    have hb := hcap_cD
    have hb2 := hcap_cR
    have hb3 := hrec k' hk'
    rw [xu_ne _ _ _ (by decide), upd_ne s v (k' := 123 + k') (by omega), upd_ne s v (k' := 103 + k') (by omega), upd_ne s v (by omega)]; exact ldg k' hk'
  · intro r hr k' hk'
    rw [cN_ne s r v (by omega)] at hk'
    have hb := hcap_cN r hr
    rw [xu_ne _ _ _ (by decide), upd_ne s v (by omega)]; exact lnote r hr k' hk'
  · rw [xu_ne _ _ _ (by decide)]; exact ha
  · rw [xu_ne _ _ _ (by decide)]; exact ho
  · obtain ⟨g1, g2⟩ := hh i x hi
    refine ⟨by rw [xu_ne _ _ _ (by decide)]; exact g1, lvS.cong g2 (xu_ne _ _ _ (by decide)) (xu_ne _ _ _ (by decide)) (xu_ne _ _ _ (by decide)) (xu_ne _ _ _ (by decide)) (xu_ne _ _ _ (by decide)) (xu_ne _ _ _ (by decide)) (xu_ne _ _ _ (by decide)) (xu_ne _ _ _ (by decide)) (xu_ne _ _ _ (by decide)) (xu_ne _ _ _ (by decide)) (xu_ne _ _ _ (by decide)) (xu_ne _ _ _ (by decide)) (xu_ne _ _ _ (by decide)) (xu_ne _ _ _ (by decide))⟩
  · rw [xu_ne _ _ _ (by decide), xu_ne _ _ _ (by decide)]; exact hbk
  · unfold RXt; rw [xu_ne _ _ _ (by decide), xu_ne _ _ _ (by decide)]; exact ht
theorem X_set_warmth {σ : xSt} {H : List sS} {s : sS} {tx : (Nat → Int32) × Nat} (h : RX σ (H, s, tx)) (hc : caps s) (v : Int32) : RX (xu σ 20 1 v) (H, upd s 1 v, tx) := by
  have h : pgS σ s ∧ lvS σ s ∧ RXh σ H ∧ (σ 39 7 = 0 ∧ σ 40 7 = 0) ∧ RXt σ tx := h
  show pgS (xu σ 20 1 v) (upd s 1 v) ∧ lvS (xu σ 20 1 v) (upd s 1 v) ∧ RXh (xu σ 20 1 v) H ∧ (xu σ 20 1 v 39 7 = 0 ∧ xu σ 20 1 v 40 7 = 0) ∧ RXt (xu σ 20 1 v) tx
  obtain ⟨⟨hgrams, hcame, hsold, hgone, hnrec, hwait, hparts, hndough, hpoints, hstate, hshaped, hwent, htick, hwarmth, hdecks, hheat, hsetHeat, hbreads, hstrength, hcost, hcap, hncount, hnshop⟩, ⟨lpiece, llow, lhigh, liheat, lallerg, ldrec, ldpieces, lsx, lsy, lsopen, lsclose, lsstay, ldg, lnote⟩, ⟨h8, ha, o0, ho8, ho, hh⟩, hbk, ht⟩ := h
  obtain ⟨hcap_cR, hcap_cD, hcap_cS, hcap_cN, hrec, -⟩ := hc
  have eR : cR (upd s 1 v) = cR s := cR_ne s v (by omega)
  have eD : cD (upd s 1 v) = cD s := cD_ne s v (by omega)
  have eS : cS (upd s 1 v) = cS s := cS_ne s v (by omega)
  refine ⟨⟨?_, ?_, ?_, ?_, ?_, ?_, ?_, ?_, ?_, ?_, ?_, ?_, ?_, ?_, ?_, ?_, ?_, ?_, ?_, ?_, ?_, ?_, ?_⟩, ⟨?_, ?_, ?_, ?_, ?_, ?_, ?_, ?_, ?_, ?_, ?_, ?_, ?_, ?_⟩, ⟨h8, ?_, o0, ho8, ?_, fun i x hi => ?_⟩, ?_, ?_⟩
  · intro k' hk'
    rw [xu_ne _ _ _ (by decide), upd_ne s v (by omega)]; exact hgrams k' hk'
  · rw [xu_ne _ _ _ (by decide), upd_ne s v (by omega)]; exact hcame
  · rw [xu_ne _ _ _ (by decide), upd_ne s v (by omega)]; exact hsold
  · rw [xu_ne _ _ _ (by decide), upd_ne s v (by omega)]; exact hgone
  · rw [xu_ne _ _ _ (by decide), upd_ne s v (by omega)]; exact hnrec
  · intro k' hk'
    rw [xu_ne _ _ _ (by decide), eR, upd_ne s v (by omega)]; exact hwait k' hk'
  · intro k' hk'
    rw [xu_ne _ _ _ (by decide), upd_ne s v (by omega)]; exact hparts k' hk'
  · rw [xu_ne _ _ _ (by decide), upd_ne s v (by omega)]; exact hndough
  · intro k' hk'
    rw [xu_ne _ _ _ (by decide), upd_ne s v (by omega)]; exact hpoints k' hk'
  · intro k' hk'
    rw [xu_ne _ _ _ (by decide), upd_ne s v (by omega)]; exact hstate k' hk'
  · intro k' hk'
    rw [xu_ne _ _ _ (by decide), upd_ne s v (by omega)]; exact hshaped k' hk'
  · intro k' hk'
    rw [xu_ne _ _ _ (by decide), upd_ne s v (by omega)]; exact hwent k' hk'
  · rw [xu_at, upd_ne _ _ (by decide), upd_ne s v (by omega)]; exact htick
  · rw [xu_at, upd_at, upd_at]
  · rw [xu_at, upd_ne _ _ (by decide), upd_ne s v (by omega)]; exact hdecks
  · rw [xu_at, upd_ne _ _ (by decide), upd_ne s v (by omega)]; exact hheat
  · rw [xu_at, upd_ne _ _ (by decide), upd_ne s v (by omega)]; exact hsetHeat
  · intro k' hk'
    rw [xu_ne _ _ _ (by decide), upd_ne s v (by omega)]; exact hbreads k' hk'
  · intro k' hk'
    rw [xu_ne _ _ _ (by decide), upd_ne s v (by omega)]; exact hstrength k' hk'
  · intro k' hk'
    rw [xu_ne _ _ _ (by decide), upd_ne s v (by omega)]; exact hcost k' hk'
  · intro k' hk'
    rw [xu_ne _ _ _ (by decide), upd_ne s v (by omega)]; exact hcap k' hk'
  · intro k' hk'
    rw [xu_ne _ _ _ (by decide), upd_ne s v (by omega)]; exact hncount k' hk'
  · rw [xu_ne _ _ _ (by decide), upd_ne s v (by omega)]; exact hnshop
  · intro k' hk'
    rw [eR] at hk'
    have hb := hcap_cR
    rw [xu_ne _ _ _ (by decide), upd_ne s v (by omega)]; exact lpiece k' hk'
  · intro k' hk'
    rw [eR] at hk'
    have hb := hcap_cR
    rw [xu_ne _ _ _ (by decide), upd_ne s v (by omega)]; exact llow k' hk'
  · intro k' hk'
    rw [eR] at hk'
    have hb := hcap_cR
    rw [xu_ne _ _ _ (by decide), upd_ne s v (by omega)]; exact lhigh k' hk'
  · intro k' hk'
    rw [eR] at hk'
    have hb := hcap_cR
    rw [xu_ne _ _ _ (by decide), upd_ne s v (by omega)]; exact liheat k' hk'
  · intro k' hk'
    rw [eR] at hk'
    have hb := hcap_cR
    rw [xu_ne _ _ _ (by decide), upd_ne s v (by omega)]; exact lallerg k' hk'
  · intro k' hk'
    rw [eD] at hk'
    have hb := hcap_cD
    rw [xu_ne _ _ _ (by decide), upd_ne s v (by omega)]; exact ldrec k' hk'
  · intro k' hk'
    rw [eD] at hk'
    have hb := hcap_cD
    rw [xu_ne _ _ _ (by decide), upd_ne s v (by omega)]; exact ldpieces k' hk'
  · intro k' hk'
    rw [eS] at hk'
    have hb := hcap_cS
    rw [xu_ne _ _ _ (by decide), upd_ne s v (by omega)]; exact lsx k' hk'
  · intro k' hk'
    rw [eS] at hk'
    have hb := hcap_cS
    rw [xu_ne _ _ _ (by decide), upd_ne s v (by omega)]; exact lsy k' hk'
  · intro k' hk'
    rw [eS] at hk'
    have hb := hcap_cS
    rw [xu_ne _ _ _ (by decide), upd_ne s v (by omega)]; exact lsopen k' hk'
  · intro k' hk'
    rw [eS] at hk'
    have hb := hcap_cS
    rw [xu_ne _ _ _ (by decide), upd_ne s v (by omega)]; exact lsclose k' hk'
  · intro k' hk'
    rw [eS] at hk'
    have hb := hcap_cS
    rw [xu_ne _ _ _ (by decide), upd_ne s v (by omega)]; exact lsstay k' hk'
  · intro k' hk'
    rw [eD] at hk'
    have hb := hcap_cD
    have hb2 := hcap_cR
    have hb3 := hrec k' hk'
    rw [xu_ne _ _ _ (by decide), upd_ne s v (k' := 123 + k') (by omega), upd_ne s v (k' := 103 + k') (by omega), upd_ne s v (by omega)]; exact ldg k' hk'
  · intro r hr k' hk'
    rw [cN_ne s r v (by omega)] at hk'
    have hb := hcap_cN r hr
    rw [xu_ne _ _ _ (by decide), upd_ne s v (by omega)]; exact lnote r hr k' hk'
  · rw [xu_ne _ _ _ (by decide)]; exact ha
  · rw [xu_ne _ _ _ (by decide)]; exact ho
  · obtain ⟨g1, g2⟩ := hh i x hi
    refine ⟨by rw [xu_ne _ _ _ (by decide)]; exact g1, lvS.cong g2 (xu_ne _ _ _ (by decide)) (xu_ne _ _ _ (by decide)) (xu_ne _ _ _ (by decide)) (xu_ne _ _ _ (by decide)) (xu_ne _ _ _ (by decide)) (xu_ne _ _ _ (by decide)) (xu_ne _ _ _ (by decide)) (xu_ne _ _ _ (by decide)) (xu_ne _ _ _ (by decide)) (xu_ne _ _ _ (by decide)) (xu_ne _ _ _ (by decide)) (xu_ne _ _ _ (by decide)) (xu_ne _ _ _ (by decide)) (xu_ne _ _ _ (by decide))⟩
  · rw [xu_ne _ _ _ (by decide), xu_ne _ _ _ (by decide)]; exact hbk
  · unfold RXt; rw [xu_ne _ _ _ (by decide), xu_ne _ _ _ (by decide)]; exact ht
theorem X_set_decks {σ : xSt} {H : List sS} {s : sS} {tx : (Nat → Int32) × Nat} (h : RX σ (H, s, tx)) (hc : caps s) (v : Int32) : RX (xu σ 20 2 v) (H, upd s 4 v, tx) := by
  have h : pgS σ s ∧ lvS σ s ∧ RXh σ H ∧ (σ 39 7 = 0 ∧ σ 40 7 = 0) ∧ RXt σ tx := h
  show pgS (xu σ 20 2 v) (upd s 4 v) ∧ lvS (xu σ 20 2 v) (upd s 4 v) ∧ RXh (xu σ 20 2 v) H ∧ (xu σ 20 2 v 39 7 = 0 ∧ xu σ 20 2 v 40 7 = 0) ∧ RXt (xu σ 20 2 v) tx
  obtain ⟨⟨hgrams, hcame, hsold, hgone, hnrec, hwait, hparts, hndough, hpoints, hstate, hshaped, hwent, htick, hwarmth, hdecks, hheat, hsetHeat, hbreads, hstrength, hcost, hcap, hncount, hnshop⟩, ⟨lpiece, llow, lhigh, liheat, lallerg, ldrec, ldpieces, lsx, lsy, lsopen, lsclose, lsstay, ldg, lnote⟩, ⟨h8, ha, o0, ho8, ho, hh⟩, hbk, ht⟩ := h
  obtain ⟨hcap_cR, hcap_cD, hcap_cS, hcap_cN, hrec, -⟩ := hc
  have eR : cR (upd s 4 v) = cR s := cR_ne s v (by omega)
  have eD : cD (upd s 4 v) = cD s := cD_ne s v (by omega)
  have eS : cS (upd s 4 v) = cS s := cS_ne s v (by omega)
  refine ⟨⟨?_, ?_, ?_, ?_, ?_, ?_, ?_, ?_, ?_, ?_, ?_, ?_, ?_, ?_, ?_, ?_, ?_, ?_, ?_, ?_, ?_, ?_, ?_⟩, ⟨?_, ?_, ?_, ?_, ?_, ?_, ?_, ?_, ?_, ?_, ?_, ?_, ?_, ?_⟩, ⟨h8, ?_, o0, ho8, ?_, fun i x hi => ?_⟩, ?_, ?_⟩
  · intro k' hk'
    rw [xu_ne _ _ _ (by decide), upd_ne s v (by omega)]; exact hgrams k' hk'
  · rw [xu_ne _ _ _ (by decide), upd_ne s v (by omega)]; exact hcame
  · rw [xu_ne _ _ _ (by decide), upd_ne s v (by omega)]; exact hsold
  · rw [xu_ne _ _ _ (by decide), upd_ne s v (by omega)]; exact hgone
  · rw [xu_ne _ _ _ (by decide), upd_ne s v (by omega)]; exact hnrec
  · intro k' hk'
    rw [xu_ne _ _ _ (by decide), eR, upd_ne s v (by omega)]; exact hwait k' hk'
  · intro k' hk'
    rw [xu_ne _ _ _ (by decide), upd_ne s v (by omega)]; exact hparts k' hk'
  · rw [xu_ne _ _ _ (by decide), upd_ne s v (by omega)]; exact hndough
  · intro k' hk'
    rw [xu_ne _ _ _ (by decide), upd_ne s v (by omega)]; exact hpoints k' hk'
  · intro k' hk'
    rw [xu_ne _ _ _ (by decide), upd_ne s v (by omega)]; exact hstate k' hk'
  · intro k' hk'
    rw [xu_ne _ _ _ (by decide), upd_ne s v (by omega)]; exact hshaped k' hk'
  · intro k' hk'
    rw [xu_ne _ _ _ (by decide), upd_ne s v (by omega)]; exact hwent k' hk'
  · rw [xu_at, upd_ne _ _ (by decide), upd_ne s v (by omega)]; exact htick
  · rw [xu_at, upd_ne _ _ (by decide), upd_ne s v (by omega)]; exact hwarmth
  · rw [xu_at, upd_at, upd_at]
  · rw [xu_at, upd_ne _ _ (by decide), upd_ne s v (by omega)]; exact hheat
  · rw [xu_at, upd_ne _ _ (by decide), upd_ne s v (by omega)]; exact hsetHeat
  · intro k' hk'
    rw [xu_ne _ _ _ (by decide), upd_ne s v (by omega)]; exact hbreads k' hk'
  · intro k' hk'
    rw [xu_ne _ _ _ (by decide), upd_ne s v (by omega)]; exact hstrength k' hk'
  · intro k' hk'
    rw [xu_ne _ _ _ (by decide), upd_ne s v (by omega)]; exact hcost k' hk'
  · intro k' hk'
    rw [xu_ne _ _ _ (by decide), upd_ne s v (by omega)]; exact hcap k' hk'
  · intro k' hk'
    rw [xu_ne _ _ _ (by decide), upd_ne s v (by omega)]; exact hncount k' hk'
  · rw [xu_ne _ _ _ (by decide), upd_ne s v (by omega)]; exact hnshop
  · intro k' hk'
    rw [eR] at hk'
    have hb := hcap_cR
    rw [xu_ne _ _ _ (by decide), upd_ne s v (by omega)]; exact lpiece k' hk'
  · intro k' hk'
    rw [eR] at hk'
    have hb := hcap_cR
    rw [xu_ne _ _ _ (by decide), upd_ne s v (by omega)]; exact llow k' hk'
  · intro k' hk'
    rw [eR] at hk'
    have hb := hcap_cR
    rw [xu_ne _ _ _ (by decide), upd_ne s v (by omega)]; exact lhigh k' hk'
  · intro k' hk'
    rw [eR] at hk'
    have hb := hcap_cR
    rw [xu_ne _ _ _ (by decide), upd_ne s v (by omega)]; exact liheat k' hk'
  · intro k' hk'
    rw [eR] at hk'
    have hb := hcap_cR
    rw [xu_ne _ _ _ (by decide), upd_ne s v (by omega)]; exact lallerg k' hk'
  · intro k' hk'
    rw [eD] at hk'
    have hb := hcap_cD
    rw [xu_ne _ _ _ (by decide), upd_ne s v (by omega)]; exact ldrec k' hk'
  · intro k' hk'
    rw [eD] at hk'
    have hb := hcap_cD
    rw [xu_ne _ _ _ (by decide), upd_ne s v (by omega)]; exact ldpieces k' hk'
  · intro k' hk'
    rw [eS] at hk'
    have hb := hcap_cS
    rw [xu_ne _ _ _ (by decide), upd_ne s v (by omega)]; exact lsx k' hk'
  · intro k' hk'
    rw [eS] at hk'
    have hb := hcap_cS
    rw [xu_ne _ _ _ (by decide), upd_ne s v (by omega)]; exact lsy k' hk'
  · intro k' hk'
    rw [eS] at hk'
    have hb := hcap_cS
    rw [xu_ne _ _ _ (by decide), upd_ne s v (by omega)]; exact lsopen k' hk'
  · intro k' hk'
    rw [eS] at hk'
    have hb := hcap_cS
    rw [xu_ne _ _ _ (by decide), upd_ne s v (by omega)]; exact lsclose k' hk'
  · intro k' hk'
    rw [eS] at hk'
    have hb := hcap_cS
    rw [xu_ne _ _ _ (by decide), upd_ne s v (by omega)]; exact lsstay k' hk'
  · intro k' hk'
    rw [eD] at hk'
    have hb := hcap_cD
    have hb2 := hcap_cR
    have hb3 := hrec k' hk'
    rw [xu_ne _ _ _ (by decide), upd_ne s v (k' := 123 + k') (by omega), upd_ne s v (k' := 103 + k') (by omega), upd_ne s v (by omega)]; exact ldg k' hk'
  · intro r hr k' hk'
    rw [cN_ne s r v (by omega)] at hk'
    have hb := hcap_cN r hr
    rw [xu_ne _ _ _ (by decide), upd_ne s v (by omega)]; exact lnote r hr k' hk'
  · rw [xu_ne _ _ _ (by decide)]; exact ha
  · rw [xu_ne _ _ _ (by decide)]; exact ho
  · obtain ⟨g1, g2⟩ := hh i x hi
    refine ⟨by rw [xu_ne _ _ _ (by decide)]; exact g1, lvS.cong g2 (xu_ne _ _ _ (by decide)) (xu_ne _ _ _ (by decide)) (xu_ne _ _ _ (by decide)) (xu_ne _ _ _ (by decide)) (xu_ne _ _ _ (by decide)) (xu_ne _ _ _ (by decide)) (xu_ne _ _ _ (by decide)) (xu_ne _ _ _ (by decide)) (xu_ne _ _ _ (by decide)) (xu_ne _ _ _ (by decide)) (xu_ne _ _ _ (by decide)) (xu_ne _ _ _ (by decide)) (xu_ne _ _ _ (by decide)) (xu_ne _ _ _ (by decide))⟩
  · rw [xu_ne _ _ _ (by decide), xu_ne _ _ _ (by decide)]; exact hbk
  · unfold RXt; rw [xu_ne _ _ _ (by decide), xu_ne _ _ _ (by decide)]; exact ht
theorem X_set_heat {σ : xSt} {H : List sS} {s : sS} {tx : (Nat → Int32) × Nat} (h : RX σ (H, s, tx)) (hc : caps s) (v : Int32) : RX (xu σ 20 3 v) (H, upd s 2 v, tx) := by
  have h : pgS σ s ∧ lvS σ s ∧ RXh σ H ∧ (σ 39 7 = 0 ∧ σ 40 7 = 0) ∧ RXt σ tx := h
  show pgS (xu σ 20 3 v) (upd s 2 v) ∧ lvS (xu σ 20 3 v) (upd s 2 v) ∧ RXh (xu σ 20 3 v) H ∧ (xu σ 20 3 v 39 7 = 0 ∧ xu σ 20 3 v 40 7 = 0) ∧ RXt (xu σ 20 3 v) tx
  obtain ⟨⟨hgrams, hcame, hsold, hgone, hnrec, hwait, hparts, hndough, hpoints, hstate, hshaped, hwent, htick, hwarmth, hdecks, hheat, hsetHeat, hbreads, hstrength, hcost, hcap, hncount, hnshop⟩, ⟨lpiece, llow, lhigh, liheat, lallerg, ldrec, ldpieces, lsx, lsy, lsopen, lsclose, lsstay, ldg, lnote⟩, ⟨h8, ha, o0, ho8, ho, hh⟩, hbk, ht⟩ := h
  obtain ⟨hcap_cR, hcap_cD, hcap_cS, hcap_cN, hrec, -⟩ := hc
  have eR : cR (upd s 2 v) = cR s := cR_ne s v (by omega)
  have eD : cD (upd s 2 v) = cD s := cD_ne s v (by omega)
  have eS : cS (upd s 2 v) = cS s := cS_ne s v (by omega)
  refine ⟨⟨?_, ?_, ?_, ?_, ?_, ?_, ?_, ?_, ?_, ?_, ?_, ?_, ?_, ?_, ?_, ?_, ?_, ?_, ?_, ?_, ?_, ?_, ?_⟩, ⟨?_, ?_, ?_, ?_, ?_, ?_, ?_, ?_, ?_, ?_, ?_, ?_, ?_, ?_⟩, ⟨h8, ?_, o0, ho8, ?_, fun i x hi => ?_⟩, ?_, ?_⟩
  · intro k' hk'
    rw [xu_ne _ _ _ (by decide), upd_ne s v (by omega)]; exact hgrams k' hk'
  · rw [xu_ne _ _ _ (by decide), upd_ne s v (by omega)]; exact hcame
  · rw [xu_ne _ _ _ (by decide), upd_ne s v (by omega)]; exact hsold
  · rw [xu_ne _ _ _ (by decide), upd_ne s v (by omega)]; exact hgone
  · rw [xu_ne _ _ _ (by decide), upd_ne s v (by omega)]; exact hnrec
  · intro k' hk'
    rw [xu_ne _ _ _ (by decide), eR, upd_ne s v (by omega)]; exact hwait k' hk'
  · intro k' hk'
    rw [xu_ne _ _ _ (by decide), upd_ne s v (by omega)]; exact hparts k' hk'
  · rw [xu_ne _ _ _ (by decide), upd_ne s v (by omega)]; exact hndough
  · intro k' hk'
    rw [xu_ne _ _ _ (by decide), upd_ne s v (by omega)]; exact hpoints k' hk'
  · intro k' hk'
    rw [xu_ne _ _ _ (by decide), upd_ne s v (by omega)]; exact hstate k' hk'
  · intro k' hk'
    rw [xu_ne _ _ _ (by decide), upd_ne s v (by omega)]; exact hshaped k' hk'
  · intro k' hk'
    rw [xu_ne _ _ _ (by decide), upd_ne s v (by omega)]; exact hwent k' hk'
  · rw [xu_at, upd_ne _ _ (by decide), upd_ne s v (by omega)]; exact htick
  · rw [xu_at, upd_ne _ _ (by decide), upd_ne s v (by omega)]; exact hwarmth
  · rw [xu_at, upd_ne _ _ (by decide), upd_ne s v (by omega)]; exact hdecks
  · rw [xu_at, upd_at, upd_at]
  · rw [xu_at, upd_ne _ _ (by decide), upd_ne s v (by omega)]; exact hsetHeat
  · intro k' hk'
    rw [xu_ne _ _ _ (by decide), upd_ne s v (by omega)]; exact hbreads k' hk'
  · intro k' hk'
    rw [xu_ne _ _ _ (by decide), upd_ne s v (by omega)]; exact hstrength k' hk'
  · intro k' hk'
    rw [xu_ne _ _ _ (by decide), upd_ne s v (by omega)]; exact hcost k' hk'
  · intro k' hk'
    rw [xu_ne _ _ _ (by decide), upd_ne s v (by omega)]; exact hcap k' hk'
  · intro k' hk'
    rw [xu_ne _ _ _ (by decide), upd_ne s v (by omega)]; exact hncount k' hk'
  · rw [xu_ne _ _ _ (by decide), upd_ne s v (by omega)]; exact hnshop
  · intro k' hk'
    rw [eR] at hk'
    have hb := hcap_cR
    rw [xu_ne _ _ _ (by decide), upd_ne s v (by omega)]; exact lpiece k' hk'
  · intro k' hk'
    rw [eR] at hk'
    have hb := hcap_cR
    rw [xu_ne _ _ _ (by decide), upd_ne s v (by omega)]; exact llow k' hk'
  · intro k' hk'
    rw [eR] at hk'
    have hb := hcap_cR
    rw [xu_ne _ _ _ (by decide), upd_ne s v (by omega)]; exact lhigh k' hk'
  · intro k' hk'
    rw [eR] at hk'
    have hb := hcap_cR
    rw [xu_ne _ _ _ (by decide), upd_ne s v (by omega)]; exact liheat k' hk'
  · intro k' hk'
    rw [eR] at hk'
    have hb := hcap_cR
    rw [xu_ne _ _ _ (by decide), upd_ne s v (by omega)]; exact lallerg k' hk'
  · intro k' hk'
    rw [eD] at hk'
    have hb := hcap_cD
    rw [xu_ne _ _ _ (by decide), upd_ne s v (by omega)]; exact ldrec k' hk'
  · intro k' hk'
    rw [eD] at hk'
    have hb := hcap_cD
    rw [xu_ne _ _ _ (by decide), upd_ne s v (by omega)]; exact ldpieces k' hk'
  · intro k' hk'
    rw [eS] at hk'
    have hb := hcap_cS
    rw [xu_ne _ _ _ (by decide), upd_ne s v (by omega)]; exact lsx k' hk'
  · intro k' hk'
    rw [eS] at hk'
    have hb := hcap_cS
    rw [xu_ne _ _ _ (by decide), upd_ne s v (by omega)]; exact lsy k' hk'
  · intro k' hk'
    rw [eS] at hk'
    have hb := hcap_cS
    rw [xu_ne _ _ _ (by decide), upd_ne s v (by omega)]; exact lsopen k' hk'
  · intro k' hk'
    rw [eS] at hk'
    have hb := hcap_cS
    rw [xu_ne _ _ _ (by decide), upd_ne s v (by omega)]; exact lsclose k' hk'
  · intro k' hk'
    rw [eS] at hk'
    have hb := hcap_cS
    rw [xu_ne _ _ _ (by decide), upd_ne s v (by omega)]; exact lsstay k' hk'
  · intro k' hk'
    rw [eD] at hk'
    have hb := hcap_cD
    have hb2 := hcap_cR
    have hb3 := hrec k' hk'
    rw [xu_ne _ _ _ (by decide), upd_ne s v (k' := 123 + k') (by omega), upd_ne s v (k' := 103 + k') (by omega), upd_ne s v (by omega)]; exact ldg k' hk'
  · intro r hr k' hk'
    rw [cN_ne s r v (by omega)] at hk'
    have hb := hcap_cN r hr
    rw [xu_ne _ _ _ (by decide), upd_ne s v (by omega)]; exact lnote r hr k' hk'
  · rw [xu_ne _ _ _ (by decide)]; exact ha
  · rw [xu_ne _ _ _ (by decide)]; exact ho
  · obtain ⟨g1, g2⟩ := hh i x hi
    refine ⟨by rw [xu_ne _ _ _ (by decide)]; exact g1, lvS.cong g2 (xu_ne _ _ _ (by decide)) (xu_ne _ _ _ (by decide)) (xu_ne _ _ _ (by decide)) (xu_ne _ _ _ (by decide)) (xu_ne _ _ _ (by decide)) (xu_ne _ _ _ (by decide)) (xu_ne _ _ _ (by decide)) (xu_ne _ _ _ (by decide)) (xu_ne _ _ _ (by decide)) (xu_ne _ _ _ (by decide)) (xu_ne _ _ _ (by decide)) (xu_ne _ _ _ (by decide)) (xu_ne _ _ _ (by decide)) (xu_ne _ _ _ (by decide))⟩
  · rw [xu_ne _ _ _ (by decide), xu_ne _ _ _ (by decide)]; exact hbk
  · unfold RXt; rw [xu_ne _ _ _ (by decide), xu_ne _ _ _ (by decide)]; exact ht
theorem X_set_setHeat {σ : xSt} {H : List sS} {s : sS} {tx : (Nat → Int32) × Nat} (h : RX σ (H, s, tx)) (hc : caps s) (v : Int32) : RX (xu σ 20 4 v) (H, upd s 3 v, tx) := by
  have h : pgS σ s ∧ lvS σ s ∧ RXh σ H ∧ (σ 39 7 = 0 ∧ σ 40 7 = 0) ∧ RXt σ tx := h
  show pgS (xu σ 20 4 v) (upd s 3 v) ∧ lvS (xu σ 20 4 v) (upd s 3 v) ∧ RXh (xu σ 20 4 v) H ∧ (xu σ 20 4 v 39 7 = 0 ∧ xu σ 20 4 v 40 7 = 0) ∧ RXt (xu σ 20 4 v) tx
  obtain ⟨⟨hgrams, hcame, hsold, hgone, hnrec, hwait, hparts, hndough, hpoints, hstate, hshaped, hwent, htick, hwarmth, hdecks, hheat, hsetHeat, hbreads, hstrength, hcost, hcap, hncount, hnshop⟩, ⟨lpiece, llow, lhigh, liheat, lallerg, ldrec, ldpieces, lsx, lsy, lsopen, lsclose, lsstay, ldg, lnote⟩, ⟨h8, ha, o0, ho8, ho, hh⟩, hbk, ht⟩ := h
  obtain ⟨hcap_cR, hcap_cD, hcap_cS, hcap_cN, hrec, -⟩ := hc
  have eR : cR (upd s 3 v) = cR s := cR_ne s v (by omega)
  have eD : cD (upd s 3 v) = cD s := cD_ne s v (by omega)
  have eS : cS (upd s 3 v) = cS s := cS_ne s v (by omega)
  refine ⟨⟨?_, ?_, ?_, ?_, ?_, ?_, ?_, ?_, ?_, ?_, ?_, ?_, ?_, ?_, ?_, ?_, ?_, ?_, ?_, ?_, ?_, ?_, ?_⟩, ⟨?_, ?_, ?_, ?_, ?_, ?_, ?_, ?_, ?_, ?_, ?_, ?_, ?_, ?_⟩, ⟨h8, ?_, o0, ho8, ?_, fun i x hi => ?_⟩, ?_, ?_⟩
  · intro k' hk'
    rw [xu_ne _ _ _ (by decide), upd_ne s v (by omega)]; exact hgrams k' hk'
  · rw [xu_ne _ _ _ (by decide), upd_ne s v (by omega)]; exact hcame
  · rw [xu_ne _ _ _ (by decide), upd_ne s v (by omega)]; exact hsold
  · rw [xu_ne _ _ _ (by decide), upd_ne s v (by omega)]; exact hgone
  · rw [xu_ne _ _ _ (by decide), upd_ne s v (by omega)]; exact hnrec
  · intro k' hk'
    rw [xu_ne _ _ _ (by decide), eR, upd_ne s v (by omega)]; exact hwait k' hk'
  · intro k' hk'
    rw [xu_ne _ _ _ (by decide), upd_ne s v (by omega)]; exact hparts k' hk'
  · rw [xu_ne _ _ _ (by decide), upd_ne s v (by omega)]; exact hndough
  · intro k' hk'
    rw [xu_ne _ _ _ (by decide), upd_ne s v (by omega)]; exact hpoints k' hk'
  · intro k' hk'
    rw [xu_ne _ _ _ (by decide), upd_ne s v (by omega)]; exact hstate k' hk'
  · intro k' hk'
    rw [xu_ne _ _ _ (by decide), upd_ne s v (by omega)]; exact hshaped k' hk'
  · intro k' hk'
    rw [xu_ne _ _ _ (by decide), upd_ne s v (by omega)]; exact hwent k' hk'
  · rw [xu_at, upd_ne _ _ (by decide), upd_ne s v (by omega)]; exact htick
  · rw [xu_at, upd_ne _ _ (by decide), upd_ne s v (by omega)]; exact hwarmth
  · rw [xu_at, upd_ne _ _ (by decide), upd_ne s v (by omega)]; exact hdecks
  · rw [xu_at, upd_ne _ _ (by decide), upd_ne s v (by omega)]; exact hheat
  · rw [xu_at, upd_at, upd_at]
  · intro k' hk'
    rw [xu_ne _ _ _ (by decide), upd_ne s v (by omega)]; exact hbreads k' hk'
  · intro k' hk'
    rw [xu_ne _ _ _ (by decide), upd_ne s v (by omega)]; exact hstrength k' hk'
  · intro k' hk'
    rw [xu_ne _ _ _ (by decide), upd_ne s v (by omega)]; exact hcost k' hk'
  · intro k' hk'
    rw [xu_ne _ _ _ (by decide), upd_ne s v (by omega)]; exact hcap k' hk'
  · intro k' hk'
    rw [xu_ne _ _ _ (by decide), upd_ne s v (by omega)]; exact hncount k' hk'
  · rw [xu_ne _ _ _ (by decide), upd_ne s v (by omega)]; exact hnshop
  · intro k' hk'
    rw [eR] at hk'
    have hb := hcap_cR
    rw [xu_ne _ _ _ (by decide), upd_ne s v (by omega)]; exact lpiece k' hk'
  · intro k' hk'
    rw [eR] at hk'
    have hb := hcap_cR
    rw [xu_ne _ _ _ (by decide), upd_ne s v (by omega)]; exact llow k' hk'
  · intro k' hk'
    rw [eR] at hk'
    have hb := hcap_cR
    rw [xu_ne _ _ _ (by decide), upd_ne s v (by omega)]; exact lhigh k' hk'
  · intro k' hk'
    rw [eR] at hk'
    have hb := hcap_cR
    rw [xu_ne _ _ _ (by decide), upd_ne s v (by omega)]; exact liheat k' hk'
  · intro k' hk'
    rw [eR] at hk'
    have hb := hcap_cR
    rw [xu_ne _ _ _ (by decide), upd_ne s v (by omega)]; exact lallerg k' hk'
  · intro k' hk'
    rw [eD] at hk'
    have hb := hcap_cD
    rw [xu_ne _ _ _ (by decide), upd_ne s v (by omega)]; exact ldrec k' hk'
  · intro k' hk'
    rw [eD] at hk'
    have hb := hcap_cD
    rw [xu_ne _ _ _ (by decide), upd_ne s v (by omega)]; exact ldpieces k' hk'
  · intro k' hk'
    rw [eS] at hk'
    have hb := hcap_cS
    rw [xu_ne _ _ _ (by decide), upd_ne s v (by omega)]; exact lsx k' hk'
  · intro k' hk'
    rw [eS] at hk'
    have hb := hcap_cS
    rw [xu_ne _ _ _ (by decide), upd_ne s v (by omega)]; exact lsy k' hk'
  · intro k' hk'
    rw [eS] at hk'
    have hb := hcap_cS
    rw [xu_ne _ _ _ (by decide), upd_ne s v (by omega)]; exact lsopen k' hk'
  · intro k' hk'
    rw [eS] at hk'
    have hb := hcap_cS
    rw [xu_ne _ _ _ (by decide), upd_ne s v (by omega)]; exact lsclose k' hk'
  · intro k' hk'
    rw [eS] at hk'
    have hb := hcap_cS
    rw [xu_ne _ _ _ (by decide), upd_ne s v (by omega)]; exact lsstay k' hk'
  · intro k' hk'
    rw [eD] at hk'
    have hb := hcap_cD
    have hb2 := hcap_cR
    have hb3 := hrec k' hk'
    rw [xu_ne _ _ _ (by decide), upd_ne s v (k' := 123 + k') (by omega), upd_ne s v (k' := 103 + k') (by omega), upd_ne s v (by omega)]; exact ldg k' hk'
  · intro r hr k' hk'
    rw [cN_ne s r v (by omega)] at hk'
    have hb := hcap_cN r hr
    rw [xu_ne _ _ _ (by decide), upd_ne s v (by omega)]; exact lnote r hr k' hk'
  · rw [xu_ne _ _ _ (by decide)]; exact ha
  · rw [xu_ne _ _ _ (by decide)]; exact ho
  · obtain ⟨g1, g2⟩ := hh i x hi
    refine ⟨by rw [xu_ne _ _ _ (by decide)]; exact g1, lvS.cong g2 (xu_ne _ _ _ (by decide)) (xu_ne _ _ _ (by decide)) (xu_ne _ _ _ (by decide)) (xu_ne _ _ _ (by decide)) (xu_ne _ _ _ (by decide)) (xu_ne _ _ _ (by decide)) (xu_ne _ _ _ (by decide)) (xu_ne _ _ _ (by decide)) (xu_ne _ _ _ (by decide)) (xu_ne _ _ _ (by decide)) (xu_ne _ _ _ (by decide)) (xu_ne _ _ _ (by decide)) (xu_ne _ _ _ (by decide)) (xu_ne _ _ _ (by decide))⟩
  · rw [xu_ne _ _ _ (by decide), xu_ne _ _ _ (by decide)]; exact hbk
  · unfold RXt; rw [xu_ne _ _ _ (by decide), xu_ne _ _ _ (by decide)]; exact ht
theorem X_set_breads {σ : xSt} {H : List sS} {s : sS} {tx : (Nat → Int32) × Nat} (h : RX σ (H, s, tx)) (hc : caps s) {k : Nat} (hk : k < 24) (v : Int32) : RX (xu σ 28 k v) (H, upd s (223 + k) v, tx) := by
  have h : pgS σ s ∧ lvS σ s ∧ RXh σ H ∧ (σ 39 7 = 0 ∧ σ 40 7 = 0) ∧ RXt σ tx := h
  show pgS (xu σ 28 k v) (upd s (223 + k) v) ∧ lvS (xu σ 28 k v) (upd s (223 + k) v) ∧ RXh (xu σ 28 k v) H ∧ (xu σ 28 k v 39 7 = 0 ∧ xu σ 28 k v 40 7 = 0) ∧ RXt (xu σ 28 k v) tx
  obtain ⟨⟨hgrams, hcame, hsold, hgone, hnrec, hwait, hparts, hndough, hpoints, hstate, hshaped, hwent, htick, hwarmth, hdecks, hheat, hsetHeat, hbreads, hstrength, hcost, hcap, hncount, hnshop⟩, ⟨lpiece, llow, lhigh, liheat, lallerg, ldrec, ldpieces, lsx, lsy, lsopen, lsclose, lsstay, ldg, lnote⟩, ⟨h8, ha, o0, ho8, ho, hh⟩, hbk, ht⟩ := h
  obtain ⟨hcap_cR, hcap_cD, hcap_cS, hcap_cN, hrec, -⟩ := hc
  have eR : cR (upd s (223 + k) v) = cR s := cR_ne s v (by omega)
  have eD : cD (upd s (223 + k) v) = cD s := cD_ne s v (by omega)
  have eS : cS (upd s (223 + k) v) = cS s := cS_ne s v (by omega)
  refine ⟨⟨?_, ?_, ?_, ?_, ?_, ?_, ?_, ?_, ?_, ?_, ?_, ?_, ?_, ?_, ?_, ?_, ?_, ?_, ?_, ?_, ?_, ?_, ?_⟩, ⟨?_, ?_, ?_, ?_, ?_, ?_, ?_, ?_, ?_, ?_, ?_, ?_, ?_, ?_⟩, ⟨h8, ?_, o0, ho8, ?_, fun i x hi => ?_⟩, ?_, ?_⟩
  · intro k' hk'
    rw [xu_ne _ _ _ (by decide), upd_ne s v (by omega)]; exact hgrams k' hk'
  · rw [xu_ne _ _ _ (by decide), upd_ne s v (by omega)]; exact hcame
  · rw [xu_ne _ _ _ (by decide), upd_ne s v (by omega)]; exact hsold
  · rw [xu_ne _ _ _ (by decide), upd_ne s v (by omega)]; exact hgone
  · rw [xu_ne _ _ _ (by decide), upd_ne s v (by omega)]; exact hnrec
  · intro k' hk'
    rw [xu_ne _ _ _ (by decide), eR, upd_ne s v (by omega)]; exact hwait k' hk'
  · intro k' hk'
    rw [xu_ne _ _ _ (by decide), upd_ne s v (by omega)]; exact hparts k' hk'
  · rw [xu_ne _ _ _ (by decide), upd_ne s v (by omega)]; exact hndough
  · intro k' hk'
    rw [xu_ne _ _ _ (by decide), upd_ne s v (by omega)]; exact hpoints k' hk'
  · intro k' hk'
    rw [xu_ne _ _ _ (by decide), upd_ne s v (by omega)]; exact hstate k' hk'
  · intro k' hk'
    rw [xu_ne _ _ _ (by decide), upd_ne s v (by omega)]; exact hshaped k' hk'
  · intro k' hk'
    rw [xu_ne _ _ _ (by decide), upd_ne s v (by omega)]; exact hwent k' hk'
  · rw [xu_ne _ _ _ (by decide), upd_ne s v (by omega)]; exact htick
  · rw [xu_ne _ _ _ (by decide), upd_ne s v (by omega)]; exact hwarmth
  · rw [xu_ne _ _ _ (by decide), upd_ne s v (by omega)]; exact hdecks
  · rw [xu_ne _ _ _ (by decide), upd_ne s v (by omega)]; exact hheat
  · rw [xu_ne _ _ _ (by decide), upd_ne s v (by omega)]; exact hsetHeat
  · intro k' hk'
    rw [xu_at]
    by_cases e : k' = k
    · subst e; rw [upd_at, upd_at]
    · rw [upd_ne _ _ e, upd_ne _ _ (by omega)]; exact hbreads k' hk'
  · intro k' hk'
    rw [xu_ne _ _ _ (by decide), upd_ne s v (by omega)]; exact hstrength k' hk'
  · intro k' hk'
    rw [xu_ne _ _ _ (by decide), upd_ne s v (by omega)]; exact hcost k' hk'
  · intro k' hk'
    rw [xu_ne _ _ _ (by decide), upd_ne s v (by omega)]; exact hcap k' hk'
  · intro k' hk'
    rw [xu_ne _ _ _ (by decide), upd_ne s v (by omega)]; exact hncount k' hk'
  · rw [xu_ne _ _ _ (by decide), upd_ne s v (by omega)]; exact hnshop
  · intro k' hk'
    rw [eR] at hk'
    have hb := hcap_cR
    rw [xu_ne _ _ _ (by decide), upd_ne s v (by omega)]; exact lpiece k' hk'
  · intro k' hk'
    rw [eR] at hk'
    have hb := hcap_cR
    rw [xu_ne _ _ _ (by decide), upd_ne s v (by omega)]; exact llow k' hk'
  · intro k' hk'
    rw [eR] at hk'
    have hb := hcap_cR
    rw [xu_ne _ _ _ (by decide), upd_ne s v (by omega)]; exact lhigh k' hk'
  · intro k' hk'
    rw [eR] at hk'
    have hb := hcap_cR
    rw [xu_ne _ _ _ (by decide), upd_ne s v (by omega)]; exact liheat k' hk'
  · intro k' hk'
    rw [eR] at hk'
    have hb := hcap_cR
    rw [xu_ne _ _ _ (by decide), upd_ne s v (by omega)]; exact lallerg k' hk'
  · intro k' hk'
    rw [eD] at hk'
    have hb := hcap_cD
    rw [xu_ne _ _ _ (by decide), upd_ne s v (by omega)]; exact ldrec k' hk'
  · intro k' hk'
    rw [eD] at hk'
    have hb := hcap_cD
    rw [xu_ne _ _ _ (by decide), upd_ne s v (by omega)]; exact ldpieces k' hk'
  · intro k' hk'
    rw [eS] at hk'
    have hb := hcap_cS
    rw [xu_ne _ _ _ (by decide), upd_ne s v (by omega)]; exact lsx k' hk'
  · intro k' hk'
    rw [eS] at hk'
    have hb := hcap_cS
    rw [xu_ne _ _ _ (by decide), upd_ne s v (by omega)]; exact lsy k' hk'
  · intro k' hk'
    rw [eS] at hk'
    have hb := hcap_cS
    rw [xu_ne _ _ _ (by decide), upd_ne s v (by omega)]; exact lsopen k' hk'
  · intro k' hk'
    rw [eS] at hk'
    have hb := hcap_cS
    rw [xu_ne _ _ _ (by decide), upd_ne s v (by omega)]; exact lsclose k' hk'
  · intro k' hk'
    rw [eS] at hk'
    have hb := hcap_cS
    rw [xu_ne _ _ _ (by decide), upd_ne s v (by omega)]; exact lsstay k' hk'
  · intro k' hk'
    rw [eD] at hk'
    have hb := hcap_cD
    have hb2 := hcap_cR
    have hb3 := hrec k' hk'
    rw [xu_ne _ _ _ (by decide), upd_ne s v (k' := 123 + k') (by omega), upd_ne s v (k' := 103 + k') (by omega), upd_ne s v (by omega)]; exact ldg k' hk'
  · intro r hr k' hk'
    rw [cN_ne s r v (by omega)] at hk'
    have hb := hcap_cN r hr
    rw [xu_ne _ _ _ (by decide), upd_ne s v (by omega)]; exact lnote r hr k' hk'
  · rw [xu_ne _ _ _ (by decide)]; exact ha
  · rw [xu_ne _ _ _ (by decide)]; exact ho
  · obtain ⟨g1, g2⟩ := hh i x hi
    refine ⟨by rw [xu_ne _ _ _ (by decide)]; exact g1, lvS.cong g2 (xu_ne _ _ _ (by decide)) (xu_ne _ _ _ (by decide)) (xu_ne _ _ _ (by decide)) (xu_ne _ _ _ (by decide)) (xu_ne _ _ _ (by decide)) (xu_ne _ _ _ (by decide)) (xu_ne _ _ _ (by decide)) (xu_ne _ _ _ (by decide)) (xu_ne _ _ _ (by decide)) (xu_ne _ _ _ (by decide)) (xu_ne _ _ _ (by decide)) (xu_ne _ _ _ (by decide)) (xu_ne _ _ _ (by decide)) (xu_ne _ _ _ (by decide))⟩
  · rw [xu_ne _ _ _ (by decide), xu_ne _ _ _ (by decide)]; exact hbk
  · unfold RXt; rw [xu_ne _ _ _ (by decide), xu_ne _ _ _ (by decide)]; exact ht
theorem X_set_strength {σ : xSt} {H : List sS} {s : sS} {tx : (Nat → Int32) × Nat} (h : RX σ (H, s, tx)) (hc : caps s) {k : Nat} (hk : k < 4) (v : Int32) : RX (xu σ 30 k v) (H, upd s (247 + k) v, tx) := by
  have h : pgS σ s ∧ lvS σ s ∧ RXh σ H ∧ (σ 39 7 = 0 ∧ σ 40 7 = 0) ∧ RXt σ tx := h
  show pgS (xu σ 30 k v) (upd s (247 + k) v) ∧ lvS (xu σ 30 k v) (upd s (247 + k) v) ∧ RXh (xu σ 30 k v) H ∧ (xu σ 30 k v 39 7 = 0 ∧ xu σ 30 k v 40 7 = 0) ∧ RXt (xu σ 30 k v) tx
  obtain ⟨⟨hgrams, hcame, hsold, hgone, hnrec, hwait, hparts, hndough, hpoints, hstate, hshaped, hwent, htick, hwarmth, hdecks, hheat, hsetHeat, hbreads, hstrength, hcost, hcap, hncount, hnshop⟩, ⟨lpiece, llow, lhigh, liheat, lallerg, ldrec, ldpieces, lsx, lsy, lsopen, lsclose, lsstay, ldg, lnote⟩, ⟨h8, ha, o0, ho8, ho, hh⟩, hbk, ht⟩ := h
  obtain ⟨hcap_cR, hcap_cD, hcap_cS, hcap_cN, hrec, -⟩ := hc
  have eR : cR (upd s (247 + k) v) = cR s := cR_ne s v (by omega)
  have eD : cD (upd s (247 + k) v) = cD s := cD_ne s v (by omega)
  have eS : cS (upd s (247 + k) v) = cS s := cS_ne s v (by omega)
  refine ⟨⟨?_, ?_, ?_, ?_, ?_, ?_, ?_, ?_, ?_, ?_, ?_, ?_, ?_, ?_, ?_, ?_, ?_, ?_, ?_, ?_, ?_, ?_, ?_⟩, ⟨?_, ?_, ?_, ?_, ?_, ?_, ?_, ?_, ?_, ?_, ?_, ?_, ?_, ?_⟩, ⟨h8, ?_, o0, ho8, ?_, fun i x hi => ?_⟩, ?_, ?_⟩
  · intro k' hk'
    rw [xu_ne _ _ _ (by decide), upd_ne s v (by omega)]; exact hgrams k' hk'
  · rw [xu_ne _ _ _ (by decide), upd_ne s v (by omega)]; exact hcame
  · rw [xu_ne _ _ _ (by decide), upd_ne s v (by omega)]; exact hsold
  · rw [xu_ne _ _ _ (by decide), upd_ne s v (by omega)]; exact hgone
  · rw [xu_ne _ _ _ (by decide), upd_ne s v (by omega)]; exact hnrec
  · intro k' hk'
    rw [xu_ne _ _ _ (by decide), eR, upd_ne s v (by omega)]; exact hwait k' hk'
  · intro k' hk'
    rw [xu_ne _ _ _ (by decide), upd_ne s v (by omega)]; exact hparts k' hk'
  · rw [xu_ne _ _ _ (by decide), upd_ne s v (by omega)]; exact hndough
  · intro k' hk'
    rw [xu_ne _ _ _ (by decide), upd_ne s v (by omega)]; exact hpoints k' hk'
  · intro k' hk'
    rw [xu_ne _ _ _ (by decide), upd_ne s v (by omega)]; exact hstate k' hk'
  · intro k' hk'
    rw [xu_ne _ _ _ (by decide), upd_ne s v (by omega)]; exact hshaped k' hk'
  · intro k' hk'
    rw [xu_ne _ _ _ (by decide), upd_ne s v (by omega)]; exact hwent k' hk'
  · rw [xu_ne _ _ _ (by decide), upd_ne s v (by omega)]; exact htick
  · rw [xu_ne _ _ _ (by decide), upd_ne s v (by omega)]; exact hwarmth
  · rw [xu_ne _ _ _ (by decide), upd_ne s v (by omega)]; exact hdecks
  · rw [xu_ne _ _ _ (by decide), upd_ne s v (by omega)]; exact hheat
  · rw [xu_ne _ _ _ (by decide), upd_ne s v (by omega)]; exact hsetHeat
  · intro k' hk'
    rw [xu_ne _ _ _ (by decide), upd_ne s v (by omega)]; exact hbreads k' hk'
  · intro k' hk'
    rw [xu_at]
    by_cases e : k' = k
    · subst e; rw [upd_at, upd_at]
    · rw [upd_ne _ _ e, upd_ne _ _ (by omega)]; exact hstrength k' hk'
  · intro k' hk'
    rw [xu_ne _ _ _ (by decide), upd_ne s v (by omega)]; exact hcost k' hk'
  · intro k' hk'
    rw [xu_ne _ _ _ (by decide), upd_ne s v (by omega)]; exact hcap k' hk'
  · intro k' hk'
    rw [xu_ne _ _ _ (by decide), upd_ne s v (by omega)]; exact hncount k' hk'
  · rw [xu_ne _ _ _ (by decide), upd_ne s v (by omega)]; exact hnshop
  · intro k' hk'
    rw [eR] at hk'
    have hb := hcap_cR
    rw [xu_ne _ _ _ (by decide), upd_ne s v (by omega)]; exact lpiece k' hk'
  · intro k' hk'
    rw [eR] at hk'
    have hb := hcap_cR
    rw [xu_ne _ _ _ (by decide), upd_ne s v (by omega)]; exact llow k' hk'
  · intro k' hk'
    rw [eR] at hk'
    have hb := hcap_cR
    rw [xu_ne _ _ _ (by decide), upd_ne s v (by omega)]; exact lhigh k' hk'
  · intro k' hk'
    rw [eR] at hk'
    have hb := hcap_cR
    rw [xu_ne _ _ _ (by decide), upd_ne s v (by omega)]; exact liheat k' hk'
  · intro k' hk'
    rw [eR] at hk'
    have hb := hcap_cR
    rw [xu_ne _ _ _ (by decide), upd_ne s v (by omega)]; exact lallerg k' hk'
  · intro k' hk'
    rw [eD] at hk'
    have hb := hcap_cD
    rw [xu_ne _ _ _ (by decide), upd_ne s v (by omega)]; exact ldrec k' hk'
  · intro k' hk'
    rw [eD] at hk'
    have hb := hcap_cD
    rw [xu_ne _ _ _ (by decide), upd_ne s v (by omega)]; exact ldpieces k' hk'
  · intro k' hk'
    rw [eS] at hk'
    have hb := hcap_cS
    rw [xu_ne _ _ _ (by decide), upd_ne s v (by omega)]; exact lsx k' hk'
  · intro k' hk'
    rw [eS] at hk'
    have hb := hcap_cS
    rw [xu_ne _ _ _ (by decide), upd_ne s v (by omega)]; exact lsy k' hk'
  · intro k' hk'
    rw [eS] at hk'
    have hb := hcap_cS
    rw [xu_ne _ _ _ (by decide), upd_ne s v (by omega)]; exact lsopen k' hk'
  · intro k' hk'
    rw [eS] at hk'
    have hb := hcap_cS
    rw [xu_ne _ _ _ (by decide), upd_ne s v (by omega)]; exact lsclose k' hk'
  · intro k' hk'
    rw [eS] at hk'
    have hb := hcap_cS
    rw [xu_ne _ _ _ (by decide), upd_ne s v (by omega)]; exact lsstay k' hk'
  · intro k' hk'
    rw [eD] at hk'
    have hb := hcap_cD
    have hb2 := hcap_cR
    have hb3 := hrec k' hk'
    rw [xu_ne _ _ _ (by decide), upd_ne s v (k' := 123 + k') (by omega), upd_ne s v (k' := 103 + k') (by omega), upd_ne s v (by omega)]; exact ldg k' hk'
  · intro r hr k' hk'
    rw [cN_ne s r v (by omega)] at hk'
    have hb := hcap_cN r hr
    rw [xu_ne _ _ _ (by decide), upd_ne s v (by omega)]; exact lnote r hr k' hk'
  · rw [xu_ne _ _ _ (by decide)]; exact ha
  · rw [xu_ne _ _ _ (by decide)]; exact ho
  · obtain ⟨g1, g2⟩ := hh i x hi
    refine ⟨by rw [xu_ne _ _ _ (by decide)]; exact g1, lvS.cong g2 (xu_ne _ _ _ (by decide)) (xu_ne _ _ _ (by decide)) (xu_ne _ _ _ (by decide)) (xu_ne _ _ _ (by decide)) (xu_ne _ _ _ (by decide)) (xu_ne _ _ _ (by decide)) (xu_ne _ _ _ (by decide)) (xu_ne _ _ _ (by decide)) (xu_ne _ _ _ (by decide)) (xu_ne _ _ _ (by decide)) (xu_ne _ _ _ (by decide)) (xu_ne _ _ _ (by decide)) (xu_ne _ _ _ (by decide)) (xu_ne _ _ _ (by decide))⟩
  · rw [xu_ne _ _ _ (by decide), xu_ne _ _ _ (by decide)]; exact hbk
  · unfold RXt; rw [xu_ne _ _ _ (by decide), xu_ne _ _ _ (by decide)]; exact ht
theorem X_set_cost {σ : xSt} {H : List sS} {s : sS} {tx : (Nat → Int32) × Nat} (h : RX σ (H, s, tx)) (hc : caps s) {k : Nat} (hk : k < 4) (v : Int32) : RX (xu σ 31 k v) (H, upd s (251 + k) v, tx) := by
  have h : pgS σ s ∧ lvS σ s ∧ RXh σ H ∧ (σ 39 7 = 0 ∧ σ 40 7 = 0) ∧ RXt σ tx := h
  show pgS (xu σ 31 k v) (upd s (251 + k) v) ∧ lvS (xu σ 31 k v) (upd s (251 + k) v) ∧ RXh (xu σ 31 k v) H ∧ (xu σ 31 k v 39 7 = 0 ∧ xu σ 31 k v 40 7 = 0) ∧ RXt (xu σ 31 k v) tx
  obtain ⟨⟨hgrams, hcame, hsold, hgone, hnrec, hwait, hparts, hndough, hpoints, hstate, hshaped, hwent, htick, hwarmth, hdecks, hheat, hsetHeat, hbreads, hstrength, hcost, hcap, hncount, hnshop⟩, ⟨lpiece, llow, lhigh, liheat, lallerg, ldrec, ldpieces, lsx, lsy, lsopen, lsclose, lsstay, ldg, lnote⟩, ⟨h8, ha, o0, ho8, ho, hh⟩, hbk, ht⟩ := h
  obtain ⟨hcap_cR, hcap_cD, hcap_cS, hcap_cN, hrec, -⟩ := hc
  have eR : cR (upd s (251 + k) v) = cR s := cR_ne s v (by omega)
  have eD : cD (upd s (251 + k) v) = cD s := cD_ne s v (by omega)
  have eS : cS (upd s (251 + k) v) = cS s := cS_ne s v (by omega)
  refine ⟨⟨?_, ?_, ?_, ?_, ?_, ?_, ?_, ?_, ?_, ?_, ?_, ?_, ?_, ?_, ?_, ?_, ?_, ?_, ?_, ?_, ?_, ?_, ?_⟩, ⟨?_, ?_, ?_, ?_, ?_, ?_, ?_, ?_, ?_, ?_, ?_, ?_, ?_, ?_⟩, ⟨h8, ?_, o0, ho8, ?_, fun i x hi => ?_⟩, ?_, ?_⟩
  · intro k' hk'
    rw [xu_ne _ _ _ (by decide), upd_ne s v (by omega)]; exact hgrams k' hk'
  · rw [xu_ne _ _ _ (by decide), upd_ne s v (by omega)]; exact hcame
  · rw [xu_ne _ _ _ (by decide), upd_ne s v (by omega)]; exact hsold
  · rw [xu_ne _ _ _ (by decide), upd_ne s v (by omega)]; exact hgone
  · rw [xu_ne _ _ _ (by decide), upd_ne s v (by omega)]; exact hnrec
  · intro k' hk'
    rw [xu_ne _ _ _ (by decide), eR, upd_ne s v (by omega)]; exact hwait k' hk'
  · intro k' hk'
    rw [xu_ne _ _ _ (by decide), upd_ne s v (by omega)]; exact hparts k' hk'
  · rw [xu_ne _ _ _ (by decide), upd_ne s v (by omega)]; exact hndough
  · intro k' hk'
    rw [xu_ne _ _ _ (by decide), upd_ne s v (by omega)]; exact hpoints k' hk'
  · intro k' hk'
    rw [xu_ne _ _ _ (by decide), upd_ne s v (by omega)]; exact hstate k' hk'
  · intro k' hk'
    rw [xu_ne _ _ _ (by decide), upd_ne s v (by omega)]; exact hshaped k' hk'
  · intro k' hk'
    rw [xu_ne _ _ _ (by decide), upd_ne s v (by omega)]; exact hwent k' hk'
  · rw [xu_ne _ _ _ (by decide), upd_ne s v (by omega)]; exact htick
  · rw [xu_ne _ _ _ (by decide), upd_ne s v (by omega)]; exact hwarmth
  · rw [xu_ne _ _ _ (by decide), upd_ne s v (by omega)]; exact hdecks
  · rw [xu_ne _ _ _ (by decide), upd_ne s v (by omega)]; exact hheat
  · rw [xu_ne _ _ _ (by decide), upd_ne s v (by omega)]; exact hsetHeat
  · intro k' hk'
    rw [xu_ne _ _ _ (by decide), upd_ne s v (by omega)]; exact hbreads k' hk'
  · intro k' hk'
    rw [xu_ne _ _ _ (by decide), upd_ne s v (by omega)]; exact hstrength k' hk'
  · intro k' hk'
    rw [xu_at]
    by_cases e : k' = k
    · subst e; rw [upd_at, upd_at]
    · rw [upd_ne _ _ e, upd_ne _ _ (by omega)]; exact hcost k' hk'
  · intro k' hk'
    rw [xu_ne _ _ _ (by decide), upd_ne s v (by omega)]; exact hcap k' hk'
  · intro k' hk'
    rw [xu_ne _ _ _ (by decide), upd_ne s v (by omega)]; exact hncount k' hk'
  · rw [xu_ne _ _ _ (by decide), upd_ne s v (by omega)]; exact hnshop
  · intro k' hk'
    rw [eR] at hk'
    have hb := hcap_cR
    rw [xu_ne _ _ _ (by decide), upd_ne s v (by omega)]; exact lpiece k' hk'
  · intro k' hk'
    rw [eR] at hk'
    have hb := hcap_cR
    rw [xu_ne _ _ _ (by decide), upd_ne s v (by omega)]; exact llow k' hk'
  · intro k' hk'
    rw [eR] at hk'
    have hb := hcap_cR
    rw [xu_ne _ _ _ (by decide), upd_ne s v (by omega)]; exact lhigh k' hk'
  · intro k' hk'
    rw [eR] at hk'
    have hb := hcap_cR
    rw [xu_ne _ _ _ (by decide), upd_ne s v (by omega)]; exact liheat k' hk'
  · intro k' hk'
    rw [eR] at hk'
    have hb := hcap_cR
    rw [xu_ne _ _ _ (by decide), upd_ne s v (by omega)]; exact lallerg k' hk'
  · intro k' hk'
    rw [eD] at hk'
    have hb := hcap_cD
    rw [xu_ne _ _ _ (by decide), upd_ne s v (by omega)]; exact ldrec k' hk'
  · intro k' hk'
    rw [eD] at hk'
    have hb := hcap_cD
    rw [xu_ne _ _ _ (by decide), upd_ne s v (by omega)]; exact ldpieces k' hk'
  · intro k' hk'
    rw [eS] at hk'
    have hb := hcap_cS
    rw [xu_ne _ _ _ (by decide), upd_ne s v (by omega)]; exact lsx k' hk'
  · intro k' hk'
    rw [eS] at hk'
    have hb := hcap_cS
    rw [xu_ne _ _ _ (by decide), upd_ne s v (by omega)]; exact lsy k' hk'
  · intro k' hk'
    rw [eS] at hk'
    have hb := hcap_cS
    rw [xu_ne _ _ _ (by decide), upd_ne s v (by omega)]; exact lsopen k' hk'
  · intro k' hk'
    rw [eS] at hk'
    have hb := hcap_cS
    rw [xu_ne _ _ _ (by decide), upd_ne s v (by omega)]; exact lsclose k' hk'
  · intro k' hk'
    rw [eS] at hk'
    have hb := hcap_cS
    rw [xu_ne _ _ _ (by decide), upd_ne s v (by omega)]; exact lsstay k' hk'
  · intro k' hk'
    rw [eD] at hk'
    have hb := hcap_cD
    have hb2 := hcap_cR
    have hb3 := hrec k' hk'
    rw [xu_ne _ _ _ (by decide), upd_ne s v (k' := 123 + k') (by omega), upd_ne s v (k' := 103 + k') (by omega), upd_ne s v (by omega)]; exact ldg k' hk'
  · intro r hr k' hk'
    rw [cN_ne s r v (by omega)] at hk'
    have hb := hcap_cN r hr
    rw [xu_ne _ _ _ (by decide), upd_ne s v (by omega)]; exact lnote r hr k' hk'
  · rw [xu_ne _ _ _ (by decide)]; exact ha
  · rw [xu_ne _ _ _ (by decide)]; exact ho
  · obtain ⟨g1, g2⟩ := hh i x hi
    refine ⟨by rw [xu_ne _ _ _ (by decide)]; exact g1, lvS.cong g2 (xu_ne _ _ _ (by decide)) (xu_ne _ _ _ (by decide)) (xu_ne _ _ _ (by decide)) (xu_ne _ _ _ (by decide)) (xu_ne _ _ _ (by decide)) (xu_ne _ _ _ (by decide)) (xu_ne _ _ _ (by decide)) (xu_ne _ _ _ (by decide)) (xu_ne _ _ _ (by decide)) (xu_ne _ _ _ (by decide)) (xu_ne _ _ _ (by decide)) (xu_ne _ _ _ (by decide)) (xu_ne _ _ _ (by decide)) (xu_ne _ _ _ (by decide))⟩
  · rw [xu_ne _ _ _ (by decide), xu_ne _ _ _ (by decide)]; exact hbk
  · unfold RXt; rw [xu_ne _ _ _ (by decide), xu_ne _ _ _ (by decide)]; exact ht
theorem X_set_cap {σ : xSt} {H : List sS} {s : sS} {tx : (Nat → Int32) × Nat} (h : RX σ (H, s, tx)) (hc : caps s) {k : Nat} (hk : k < 4) (v : Int32) : RX (xu σ 32 k v) (H, upd s (255 + k) v, tx) := by
  have h : pgS σ s ∧ lvS σ s ∧ RXh σ H ∧ (σ 39 7 = 0 ∧ σ 40 7 = 0) ∧ RXt σ tx := h
  show pgS (xu σ 32 k v) (upd s (255 + k) v) ∧ lvS (xu σ 32 k v) (upd s (255 + k) v) ∧ RXh (xu σ 32 k v) H ∧ (xu σ 32 k v 39 7 = 0 ∧ xu σ 32 k v 40 7 = 0) ∧ RXt (xu σ 32 k v) tx
  obtain ⟨⟨hgrams, hcame, hsold, hgone, hnrec, hwait, hparts, hndough, hpoints, hstate, hshaped, hwent, htick, hwarmth, hdecks, hheat, hsetHeat, hbreads, hstrength, hcost, hcap, hncount, hnshop⟩, ⟨lpiece, llow, lhigh, liheat, lallerg, ldrec, ldpieces, lsx, lsy, lsopen, lsclose, lsstay, ldg, lnote⟩, ⟨h8, ha, o0, ho8, ho, hh⟩, hbk, ht⟩ := h
  obtain ⟨hcap_cR, hcap_cD, hcap_cS, hcap_cN, hrec, -⟩ := hc
  have eR : cR (upd s (255 + k) v) = cR s := cR_ne s v (by omega)
  have eD : cD (upd s (255 + k) v) = cD s := cD_ne s v (by omega)
  have eS : cS (upd s (255 + k) v) = cS s := cS_ne s v (by omega)
  refine ⟨⟨?_, ?_, ?_, ?_, ?_, ?_, ?_, ?_, ?_, ?_, ?_, ?_, ?_, ?_, ?_, ?_, ?_, ?_, ?_, ?_, ?_, ?_, ?_⟩, ⟨?_, ?_, ?_, ?_, ?_, ?_, ?_, ?_, ?_, ?_, ?_, ?_, ?_, ?_⟩, ⟨h8, ?_, o0, ho8, ?_, fun i x hi => ?_⟩, ?_, ?_⟩
  · intro k' hk'
    rw [xu_ne _ _ _ (by decide), upd_ne s v (by omega)]; exact hgrams k' hk'
  · rw [xu_ne _ _ _ (by decide), upd_ne s v (by omega)]; exact hcame
  · rw [xu_ne _ _ _ (by decide), upd_ne s v (by omega)]; exact hsold
  · rw [xu_ne _ _ _ (by decide), upd_ne s v (by omega)]; exact hgone
  · rw [xu_ne _ _ _ (by decide), upd_ne s v (by omega)]; exact hnrec
  · intro k' hk'
    rw [xu_ne _ _ _ (by decide), eR, upd_ne s v (by omega)]; exact hwait k' hk'
  · intro k' hk'
    rw [xu_ne _ _ _ (by decide), upd_ne s v (by omega)]; exact hparts k' hk'
  · rw [xu_ne _ _ _ (by decide), upd_ne s v (by omega)]; exact hndough
  · intro k' hk'
    rw [xu_ne _ _ _ (by decide), upd_ne s v (by omega)]; exact hpoints k' hk'
  · intro k' hk'
    rw [xu_ne _ _ _ (by decide), upd_ne s v (by omega)]; exact hstate k' hk'
  · intro k' hk'
    rw [xu_ne _ _ _ (by decide), upd_ne s v (by omega)]; exact hshaped k' hk'
  · intro k' hk'
    rw [xu_ne _ _ _ (by decide), upd_ne s v (by omega)]; exact hwent k' hk'
  · rw [xu_ne _ _ _ (by decide), upd_ne s v (by omega)]; exact htick
  · rw [xu_ne _ _ _ (by decide), upd_ne s v (by omega)]; exact hwarmth
  · rw [xu_ne _ _ _ (by decide), upd_ne s v (by omega)]; exact hdecks
  · rw [xu_ne _ _ _ (by decide), upd_ne s v (by omega)]; exact hheat
  · rw [xu_ne _ _ _ (by decide), upd_ne s v (by omega)]; exact hsetHeat
  · intro k' hk'
    rw [xu_ne _ _ _ (by decide), upd_ne s v (by omega)]; exact hbreads k' hk'
  · intro k' hk'
    rw [xu_ne _ _ _ (by decide), upd_ne s v (by omega)]; exact hstrength k' hk'
  · intro k' hk'
    rw [xu_ne _ _ _ (by decide), upd_ne s v (by omega)]; exact hcost k' hk'
  · intro k' hk'
    rw [xu_at]
    by_cases e : k' = k
    · subst e; rw [upd_at, upd_at]
    · rw [upd_ne _ _ e, upd_ne _ _ (by omega)]; exact hcap k' hk'
  · intro k' hk'
    rw [xu_ne _ _ _ (by decide), upd_ne s v (by omega)]; exact hncount k' hk'
  · rw [xu_ne _ _ _ (by decide), upd_ne s v (by omega)]; exact hnshop
  · intro k' hk'
    rw [eR] at hk'
    have hb := hcap_cR
    rw [xu_ne _ _ _ (by decide), upd_ne s v (by omega)]; exact lpiece k' hk'
  · intro k' hk'
    rw [eR] at hk'
    have hb := hcap_cR
    rw [xu_ne _ _ _ (by decide), upd_ne s v (by omega)]; exact llow k' hk'
  · intro k' hk'
    rw [eR] at hk'
    have hb := hcap_cR
    rw [xu_ne _ _ _ (by decide), upd_ne s v (by omega)]; exact lhigh k' hk'
  · intro k' hk'
    rw [eR] at hk'
    have hb := hcap_cR
    rw [xu_ne _ _ _ (by decide), upd_ne s v (by omega)]; exact liheat k' hk'
  · intro k' hk'
    rw [eR] at hk'
    have hb := hcap_cR
    rw [xu_ne _ _ _ (by decide), upd_ne s v (by omega)]; exact lallerg k' hk'
  · intro k' hk'
    rw [eD] at hk'
    have hb := hcap_cD
    rw [xu_ne _ _ _ (by decide), upd_ne s v (by omega)]; exact ldrec k' hk'
  · intro k' hk'
    rw [eD] at hk'
    have hb := hcap_cD
    rw [xu_ne _ _ _ (by decide), upd_ne s v (by omega)]; exact ldpieces k' hk'
  · intro k' hk'
    rw [eS] at hk'
    have hb := hcap_cS
    rw [xu_ne _ _ _ (by decide), upd_ne s v (by omega)]; exact lsx k' hk'
  · intro k' hk'
    rw [eS] at hk'
    have hb := hcap_cS
    rw [xu_ne _ _ _ (by decide), upd_ne s v (by omega)]; exact lsy k' hk'
  · intro k' hk'
    rw [eS] at hk'
    have hb := hcap_cS
    rw [xu_ne _ _ _ (by decide), upd_ne s v (by omega)]; exact lsopen k' hk'
  · intro k' hk'
    rw [eS] at hk'
    have hb := hcap_cS
    rw [xu_ne _ _ _ (by decide), upd_ne s v (by omega)]; exact lsclose k' hk'
  · intro k' hk'
    rw [eS] at hk'
    have hb := hcap_cS
    rw [xu_ne _ _ _ (by decide), upd_ne s v (by omega)]; exact lsstay k' hk'
  · intro k' hk'
    rw [eD] at hk'
    have hb := hcap_cD
    have hb2 := hcap_cR
    have hb3 := hrec k' hk'
    rw [xu_ne _ _ _ (by decide), upd_ne s v (k' := 123 + k') (by omega), upd_ne s v (k' := 103 + k') (by omega), upd_ne s v (by omega)]; exact ldg k' hk'
  · intro r hr k' hk'
    rw [cN_ne s r v (by omega)] at hk'
    have hb := hcap_cN r hr
    rw [xu_ne _ _ _ (by decide), upd_ne s v (by omega)]; exact lnote r hr k' hk'
  · rw [xu_ne _ _ _ (by decide)]; exact ha
  · rw [xu_ne _ _ _ (by decide)]; exact ho
  · obtain ⟨g1, g2⟩ := hh i x hi
    refine ⟨by rw [xu_ne _ _ _ (by decide)]; exact g1, lvS.cong g2 (xu_ne _ _ _ (by decide)) (xu_ne _ _ _ (by decide)) (xu_ne _ _ _ (by decide)) (xu_ne _ _ _ (by decide)) (xu_ne _ _ _ (by decide)) (xu_ne _ _ _ (by decide)) (xu_ne _ _ _ (by decide)) (xu_ne _ _ _ (by decide)) (xu_ne _ _ _ (by decide)) (xu_ne _ _ _ (by decide)) (xu_ne _ _ _ (by decide)) (xu_ne _ _ _ (by decide)) (xu_ne _ _ _ (by decide)) (xu_ne _ _ _ (by decide))⟩
  · rw [xu_ne _ _ _ (by decide), xu_ne _ _ _ (by decide)]; exact hbk
  · unfold RXt; rw [xu_ne _ _ _ (by decide), xu_ne _ _ _ (by decide)]; exact ht
