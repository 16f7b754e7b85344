/-! ===== PURE LAYER: rows of the words (the first four of the kit's NUMBERS) ===== -/
theorem fa_lt (a b : Int32) : a < b ↔ a.toInt < b.toInt := Int32.lt_iff_toInt_lt
theorem fa_le (a b : Int32) : a ≤ b ↔ a.toInt ≤ b.toInt := Int32.le_iff_toInt_le
theorem fa_eq (a b : Int32) : a = b ↔ a.toInt = b.toInt := Int32.toInt_inj.symm
theorem fa_lit (n : Nat) : (OfNat.ofNat n : Int32) = nI n := rfl
theorem xr_t {β : Type} {σ : xSt} {q n : Nat} {i : Int32} {K : Int32 → Option β} (h : xin i n = true) : xr σ q n i K = K (σ q i.toNatClampNeg) := if_pos h
theorem xs_t {β : Type} {σ : xSt} {q n : Nat} {i v : Int32} {K : xSt → Option β} (h : xin i n = true) : xs σ q n i v K = K (xu σ q i.toNatClampNeg v) := if_pos h
theorem xrs_t {β : Type} {f : Nat → Int32} {n : Nat} {i : Int32} {K : Int32 → Option β} (h : xin i n = true) : xrs f n i K = K (f i.toNatClampNeg) := if_pos h
theorem xl_t {α β : Type} (v : α) (K : α → Option β) : xl v K = K v := rfl
theorem xp_t {β : Type} (σ : xSt) (q k : Nat) (v : Int32) (K : xSt → Option β) : xp σ q k v K = K (xu σ q k v) := rfl
theorem xc_t {α β : Type} (x : α) (K : α → Option β) : xc (some x) K = K x := rfl
theorem xc2_t {α β : Type} (r : α) (σ : xSt) (K : α → xSt → Option β) : xc2 (some (r, σ)) K = K r σ := rfl
theorem xct_l (r : Int32) (σ : xSt) (K : Int32 → xSt → Option (xO × xSt)) : xct (some (.inl r, σ)) K = K r σ := rfl
theorem xct_r (k : Nat) (σ : xSt) (K : Int32 → xSt → Option (xO × xSt)) : xct (some (.inr k, σ)) K = some (.inr k, σ) := rfl
theorem xb_t {β : Type} {v : Int32} {K : Option β} (h : v = 0 ∨ v = 1) : xb v K = K := if_pos h
theorem xb_t0 {β : Type} {K : Option β} : xb 0 K = K := if_pos (Or.inl rfl)
theorem xb_t1 {β : Type} {K : Option β} : xb 1 K = K := if_pos (Or.inr rfl)
theorem xnz_t {β : Type} {v : Int32} {K : Option β} (h : ¬ v = 0) : xnz v K = K := if_neg h
theorem xnzl_t {β : Type} {v : Int64} {K : Option β} (h : ¬ v = 0) : xnzl v K = K := if_neg h
theorem xin_n {n m : Nat} (h : n < m) (hm : m < 2147483648) : xin (nI n) m = true := by
  unfold xin
  rw [nI_clamp (by omega), decide_eq_true h, decide_eq_false (nI_pos (by omega))]
  rfl
theorem xcpy_n {β : Type} {σ : xSt} {q0 n0 q1 n1 sp dp n : Nat} {K : xSt → Option β} (h0 : sp + n ≤ n0) (h1 : dp + n ≤ n1) (h2 : n0 < 2147483648) (h3 : n1 < 2147483648) : xcpy σ q0 n0 (nI sp) q1 n1 (nI dp) (nI n) K = K (xcp σ q0 q1 sp dp n) := by
  unfold xcpy
  rw [nI_clamp (by omega), nI_clamp (by omega), nI_clamp (by omega)]
  exact if_pos ⟨⟨nI_pos (by omega), nI_pos (by omega), nI_pos (by omega)⟩, h0, h1⟩
theorem xu_at (σ : xSt) (q k : Nat) (v : Int32) : xu σ q k v q = upd (σ q) k v := by unfold xu; rw [if_pos rfl]
theorem xu_ne (σ : xSt) {q q' : Nat} (k : Nat) (v : Int32) (h : q' ≠ q) : xu σ q k v q' = σ q' := by unfold xu; rw [if_neg h]
theorem upd_at (f : Nat → Int32) (k : Nat) (v : Int32) : upd f k v k = v := by unfold upd; rw [if_pos rfl]
theorem upd_ne (f : Nat → Int32) {k k' : Nat} (v : Int32) (h : k' ≠ k) : upd f k v k' = f k' := by unfold upd; rw [if_neg h]
theorem xcp_ne (σ : xSt) {q0 q1 q sp dp n : Nat} (h : q ≠ q1) : xcp σ q0 q1 sp dp n q = σ q := by unfold xcp; rw [if_neg h]
theorem xcp_at (σ : xSt) (q0 q1 sp dp n : Nat) : xcp σ q0 q1 sp dp n q1 = va_cpy (σ q0) (σ q1) sp dp n := by unfold xcp; rw [if_pos rfl]
theorem nI_rem {a : Nat} {m : Nat} (ha : a < 2147483648) (hm : 0 < m) (hm2 : m < 2147483648) : nI a - nI a / nI m * nI m = nI (a % m) := pk_rem ha hm hm2
theorem nI_mul (a b : Nat) : nI a * nI b = nI (a * b) := (Int32.ofNat_mul a b).symm
/-! ===== what a run of calls has come to: the kept states, the state, the text, its length ===== -/
abbrev sS : Type := Nat → Int32
abbrev xA : Type := List sS × sS × (Nat → Int32) × Nat
def kp (H : List sS) (s : sS) : List sS := if H.length < 8 then H ++ [s] else H.tail ++ [s]
/-- the model's cells -/
def RMk (f : Nat → Int32) (u e : Int32) (H : List sS) : Prop := H.length ≤ 8 ∧ u = nI H.length ∧ ∃ e0, e0 < 8 ∧ e = nI e0 ∧ ∀ i x, H[i]? = some x → ∀ k, k < 660 → f (660 * ((e0 + i) % 8) + k) = x k
def RM (σ : xSt) (a : xA) : Prop := (∀ k, k < 660 → σ 1 k = a.2.1 k) ∧ RMk (σ 2) (σ 0 3) (σ 0 4) a.1 ∧ (a.2.2.2 ≤ 80 ∧ σ 0 6 = nI a.2.2.2 ∧ ∀ k, k < a.2.2.2 → σ 3 k = a.2.2.1 k)
theorem RM.frame {σ σ' : xSt} {a : xA} (h : RM σ a) (h1 : σ' 1 = σ 1) (h2 : σ' 2 = σ 2) (h3 : σ' 3 = σ 3) (h4 : σ' 0 3 = σ 0 3) (h5 : σ' 0 4 = σ 0 4) (h6 : σ' 0 6 = σ 0 6) : RM σ' a := by
  unfold RM at h ⊢
  rw [h1, h2, h3, h4, h5, h6]
  exact h
theorem RM.raised {σ : xSt} {a : xA} (h : RM σ a) (v : Int32) : RM (xu σ 0 0 v) a := by
  refine h.frame (xu_ne _ _ _ (by decide)) (xu_ne _ _ _ (by decide)) (xu_ne _ _ _ (by decide)) ?_ ?_ ?_ <;> rw [xu_at, upd_ne _ _ (by decide)]
/-- a write into the model's row of numbers -/
theorem RM.set {σ : xSt} {H : List sS} {s : sS} {tx : (Nat → Int32) × Nat} (h : RM σ (H, s, tx)) (j : Nat) (v : Int32) : RM (xu σ 1 j v) (H, upd s j v, tx) := by
  obtain ⟨h1, h2, h3⟩ := h
  refine ⟨fun k hk => ?_, ?_, ?_⟩
  · rw [xu_at]
    by_cases e : k = j
    · subst e; rw [upd_at]; exact (upd_at s k v).symm
    · rw [upd_ne _ _ e]; exact (h1 k hk).trans (upd_ne s v e).symm
  · rw [xu_ne _ _ _ (by decide), xu_ne _ _ _ (by decide)]; exact h2
  · rw [xu_ne _ _ _ (by decide), xu_ne _ _ _ (by decide)]; exact h3
/-- the model's copying loop -/
theorem M_keep_loop (at0 : Nat) (hat : at0 + 660 ≤ 5440) : ∀ (d i : Nat) (n : Nat) (σ : xSt), i + d = 660 → d < n → ∃ σ', fX12_keep_c39 n (nI at0) (nI i) σ = some σ' ∧ (∀ q, q ≠ 0 → q ≠ 2 → σ' q = σ q) ∧ σ' 0 = upd (σ 0) 3 (σ 0 3 + 1) ∧ (∀ k, σ' 2 k = if at0 + i ≤ k ∧ k < at0 + 660 then σ 1 (k - at0) else σ 2 k) := by
  intro d
  induction d with
  | zero =>
    intro i n σ hi hn
    obtain ⟨n, rfl⟩ : ∃ z, n = z + 1 := ⟨n - 1, by omega⟩
    have hi : i = 660 := by omega
    subst hi
    rw [fX12_keep_c39_s, if_pos (by decide +kernel), xp_t]
    refine ⟨_, rfl, fun q h0 _ => xu_ne _ _ _ h0, xu_at _ _ _ _, fun k => ?_⟩
    rw [xu_ne _ _ _ (by decide), if_neg (by omega)]
  | succ d ih =>
    intro i n σ hi hn
    obtain ⟨n, rfl⟩ : ∃ z, n = z + 1 := ⟨n - 1, by omega⟩
    have h660 : ¬ (660 : Int32) ≤ nI i := nI_ge (a := i) (b := 660) (by omega) (by omega)
    rw [fX12_keep_c39_s, if_neg h660, xr_t (xin_n (by omega) (by omega)), nI_add, xs_t (xin_n (by omega) (by omega)), xl_t, nI_1, nI_clamp (by omega), nI_clamp (by omega)]
    obtain ⟨σ', e1, e2, e3, e4⟩ := ih (i + 1) n (xu σ 2 (at0 + i) (σ 1 i)) (by omega) (by omega)
    refine ⟨σ', e1, fun q h0 h2 => (e2 q h0 h2).trans (xu_ne _ _ _ h2), ?_, fun k => ?_⟩
    · rw [e3, xu_ne _ _ _ (by decide)]
    · rw [e4, xu_ne _ _ _ (by decide), xu_at]
      by_cases hk : k = at0 + i
      · subst hk
        rw [if_neg (by omega), if_pos (by omega), upd_at, show at0 + i - at0 = i by omega]
      · by_cases hk2 : at0 + (i + 1) ≤ k ∧ k < at0 + 660
        · rw [if_pos hk2, if_pos (by omega)]
        · rw [if_neg hk2, if_neg (by omega), upd_ne _ _ hk]
theorem kp_get {H : List sS} {s : sS} (h8 : H.length ≤ 8) : (kp H s).length ≤ 8 := by
  unfold kp
  split
  · simp; omega
  · simp; omega
theorem M_keep {σ : xSt} {H : List sS} {s : sS} {tx : (Nat → Int32) × Nat} (h : RM σ (H, s, tx)) : ∃ σ', fX12_keep σ = some σ' ∧ RM σ' (kp H s, s, tx) ∧ σ' 1 = σ 1 ∧ σ' 0 0 = σ 0 0 ∧ ∀ q, 3 ≤ q → σ' q = σ q := by
  obtain ⟨h1, ⟨h8, hu, e0, he8, he, hk⟩, ht⟩ := h
  have main : ∀ (σ1 : xSt) (e1 u1 : Nat) (G : List sS), (∀ q, q ≠ 0 → σ1 q = σ q) → σ1 0 0 = σ 0 0 → σ1 0 6 = σ 0 6 → σ1 0 3 = nI u1 → σ1 0 4 = nI e1 → e1 < 8 → u1 < 8 → G.length = u1 → (∀ i x, G[i]? = some x → ∀ k, k < 660 → σ 2 (660 * ((e1 + i) % 8) + k) = x k) → kp H s = G ++ [s] →
      ∃ σ', fX12_keep_c32 σ1 = some σ' ∧ RM σ' (kp H s, s, tx) ∧ σ' 1 = σ 1 ∧ σ' 0 0 = σ 0 0 ∧ ∀ q, 3 ≤ q → σ' q = σ q := by
    intro σ1 e1 u1 G hq h00 h06 h03 h04 he1 hu1 hG hGk hkp
    have hr : fX12_keptAt σ1 = some (nI (660 * ((e1 + u1) % 8)), σ1) := by
      unfold fX12_keptAt
      rw [h03, h04, nI_add, show (8 : Int32) = nI 8 from rfl, nI_rem (by omega) (by decide) (by decide), show (660 : Int32) = nI 660 from rfl, nI_mul]
    obtain ⟨σ', a1, a2, a3, a4⟩ := M_keep_loop (660 * ((e1 + u1) % 8)) (by omega) 660 0 xFU σ1 rfl (by decide)
    refine ⟨σ', ?_, ⟨fun k hk0 => ?_, ⟨?_, ?_, e1, he1, ?_, ?_⟩, ht.1, ?_, ?_⟩, ?_, ?_, fun q h3 => ?_⟩
    · unfold fX12_keep_c32
      rw [hr, xc2_t]
      exact a1
    · rw [a2 1 (by decide) (by decide), hq 1 (by decide)]; exact h1 k hk0
    · exact kp_get h8
    · rw [a3, upd_at, h03, hkp, List.length_append, hG]; exact nI_1 u1
    · rw [a3, upd_ne _ _ (by decide)]; exact h04
    · intro i x hi k hk0
      rw [hkp] at hi
      rw [a4]
      by_cases hi2 : i < u1
      · rw [List.getElem?_append_left (by omega)] at hi
        rw [if_neg (by omega), hq 2 (by decide)]
        exact hGk i x hi k hk0
      · have hi3 : i = u1 := by
          have := (List.getElem?_eq_some_iff.mp hi).1
          rw [List.length_append, List.length_singleton] at this
          omega
        subst hi3
        rw [List.getElem?_append_right (by omega), hG, Nat.sub_self] at hi
        cases hi
        rw [if_pos (by omega), hq 1 (by decide), show 660 * ((e1 + i) % 8) + k - 660 * ((e1 + i) % 8) = k by omega]
        exact h1 k hk0
    · rw [a3, upd_ne _ _ (by decide), h06]; exact ht.2.1
    · intro k hk0; rw [a2 3 (by decide) (by decide), hq 3 (by decide)]; exact ht.2.2 k hk0
    · rw [a2 1 (by decide) (by decide), hq 1 (by decide)]
    · rw [a3, upd_ne _ _ (by decide), h00]
    · rw [a2 q (by omega) (by omega), hq q (by omega)]
  have hu' : σ 0 3 = nI H.length := hu
  have h8 : H.length ≤ 8 := h8
  have he' : σ 0 4 = nI e0 := he
  unfold fX12_keep
  by_cases hf : H.length = 8
  · rw [if_pos (by rw [hu', hf]; rfl), xp_t, xp_t]
    have x4 : xu σ 0 4 ((σ 0 4 + 1) - (σ 0 4 + 1) / 8 * 8) 0 3 = nI 8 := by rw [xu_at, upd_ne _ _ (by decide), hu', hf]
    refine main _ ((e0 + 1) % 8) 7 H.tail (fun q h0 => by rw [xu_ne _ _ _ h0, xu_ne _ _ _ h0]) ?_ ?_ ?_ ?_ (by omega) (by decide) (by rw [List.length_tail]; omega) ?_ ?_
    · rw [xu_at, upd_ne _ _ (by decide), xu_at, upd_ne _ _ (by decide)]
    · rw [xu_at, upd_ne _ _ (by decide), xu_at, upd_ne _ _ (by decide)]
    · rw [xu_at, upd_at, x4]; exact nI_pred 7
    · rw [xu_at, upd_ne _ _ (by decide), xu_at, upd_at, he', nI_1, show (8 : Int32) = nI 8 from rfl, nI_rem (by omega) (by decide) (by decide)]
    · intro i x hi k hk0
      rw [List.getElem?_tail] at hi
      have := hk (i + 1) x hi k hk0
      rw [show ((e0 + 1) % 8 + i) % 8 = (e0 + (i + 1)) % 8 by omega]
      exact this
    · unfold kp; rw [if_neg (by omega)]
  · rw [if_neg (by rw [hu']; intro h9; exact hf ((nI_eq (by omega) (by decide)).mp (h9.trans (show (8 : Int32) = nI 8 from rfl))))]
    exact main σ e0 H.length H (fun _ _ => rfl) rfl rfl hu' he' he8 (by have : H.length ≤ 8 := h8; omega) rfl hk (by unfold kp; rw [if_pos (by have : H.length ≤ 8 := h8; omega)])
/-! the model's small answers -/
theorem M_in (p0 p1 p2 : Int32) (σ : xSt) : fX12_in p0 p1 p2 σ = some (if p1 ≤ p0 ∧ p0 ≤ p2 then 1 else 0, σ) := by
  unfold fX12_in
  by_cases h1 : p0 < p1
  · rw [if_pos h1, if_neg]; rw [fa_lt] at h1; rw [fa_le]; omega
  · rw [if_neg h1]
    by_cases h2 : p2 < p0
    · rw [if_pos h2, if_neg]; rw [fa_lt] at h2; rw [fa_le p0 p2]; omega
    · rw [if_neg h2, if_pos]; rw [fa_lt] at h1 h2; rw [fa_le, fa_le]; omega
theorem M_can1 (v : Int32) (σ : xSt) : fX12_can 1 v σ = some (1, xu σ 0 0 0) := rfl
theorem M_can0 (v : Int32) (σ : xSt) : fX12_can 0 v σ = some (0, xu σ 0 0 v) := rfl
