def xcd (k0 k1 k2 k3 : Int32) (o : xO) : Int32 := match o with | .inl _ => 0 | .inr 0 => k0 | .inr 1 => k1 | .inr 2 => k2 | .inr _ => k3
/-! ===== PURE LAYER: rows of the words (the first four of the kit's NUMBERS) ===== -/
theorem fa_lt (a b : Int32) : a < b ↔ a.toInt < b.toInt := Int32.lt_iff_toInt_lt
theorem fa_le (a b : Int32) : a ≤ b ↔ a.toInt ≤ b.toInt := Int32.le_iff_toInt_le
theorem fa_eq (a b : Int32) : a = b ↔ a.toInt = b.toInt := Int32.toInt_inj.symm
theorem fa_lit (n : Nat) : (OfNat.ofNat n : Int32) = nI n := rfl
theorem xr_t {β : Type} {σ : xSt} {q n : Nat} {i : Int32} {K : Int32 → Option β} (h : xin i n = true) : xr σ q n i K = K (σ q i.toNatClampNeg) := if_pos h
theorem xs_t {β : Type} {σ : xSt} {q n : Nat} {i v : Int32} {K : xSt → Option β} (h : xin i n = true) : xs σ q n i v K = K (xu σ q i.toNatClampNeg v) := if_pos h
theorem xrs_t {β : Type} {f : Nat → Int32} {n : Nat} {i : Int32} {K : Int32 → Option β} (h : xin i n = true) : xrs f n i K = K (f i.toNatClampNeg) := if_pos h
theorem xl_t {α β : Type} (v : α) (K : α → Option β) : xl v K = K v := rfl
theorem xp_t {β : Type} (σ : xSt) (q k : Nat) (v : Int32) (K : xSt → Option β) : xp σ q k v K = K (xu σ q k v) := rfl
theorem xc_t {α β : Type} (x : α) (K : α → Option β) : xc (some x) K = K x := rfl
theorem xc2_t {α β : Type} (r : α) (σ : xSt) (K : α → xSt → Option β) : xc2 (some (r, σ)) K = K r σ := rfl
theorem xct_l (r : Int32) (σ : xSt) (K : Int32 → xSt → Option (xO × xSt)) : xct (some (.inl r, σ)) K = K r σ := rfl
theorem xct_r (k : Nat) (σ : xSt) (K : Int32 → xSt → Option (xO × xSt)) : xct (some (.inr k, σ)) K = some (.inr k, σ) := rfl
theorem xb_t {β : Type} {v : Int32} {K : Option β} (h : v = 0 ∨ v = 1) : xb v K = K := if_pos h
theorem xb_t0 {β : Type} {K : Option β} : xb 0 K = K := if_pos (Or.inl rfl)
theorem xb_t1 {β : Type} {K : Option β} : xb 1 K = K := if_pos (Or.inr rfl)
theorem xnz_t {β : Type} {v : Int32} {K : Option β} (h : ¬ v = 0) : xnz v K = K := if_neg h
theorem xnzl_t {β : Type} {v : Int64} {K : Option β} (h : ¬ v = 0) : xnzl v K = K := if_neg h
theorem xin_n {n m : Nat} (h : n < m) (hm : m < 2147483648) : xin (nI n) m = true := by
  unfold xin
  rw [nI_clamp (by omega), decide_eq_true h, decide_eq_false (nI_pos (by omega))]
  rfl
theorem xcpy_n {β : Type} {σ : xSt} {q0 n0 q1 n1 sp dp n : Nat} {K : xSt → Option β} (h0 : sp + n ≤ n0) (h1 : dp + n ≤ n1) (h2 : n0 < 2147483648) (h3 : n1 < 2147483648) : xcpy σ q0 n0 (nI sp) q1 n1 (nI dp) (nI n) K = K (xcp σ q0 q1 sp dp n) := by
  unfold xcpy
  rw [nI_clamp (by omega), nI_clamp (by omega), nI_clamp (by omega)]
  exact if_pos ⟨⟨nI_pos (by omega), nI_pos (by omega), nI_pos (by omega)⟩, h0, h1⟩
theorem xu_at (σ : xSt) (q k : Nat) (v : Int32) : xu σ q k v q = upd (σ q) k v := by unfold xu; rw [if_pos rfl]
theorem xu_ne (σ : xSt) {q q' : Nat} (k : Nat) (v : Int32) (h : q' ≠ q) : xu σ q k v q' = σ q' := by unfold xu; rw [if_neg h]
theorem upd_at (f : Nat → Int32) (k : Nat) (v : Int32) : upd f k v k = v := by unfold upd; rw [if_pos rfl]
theorem upd_ne (f : Nat → Int32) {k k' : Nat} (v : Int32) (h : k' ≠ k) : upd f k v k' = f k' := by unfold upd; rw [if_neg h]
theorem xcp_ne (σ : xSt) {q0 q1 q sp dp n : Nat} (h : q ≠ q1) : xcp σ q0 q1 sp dp n q = σ q := by unfold xcp; rw [if_neg h]
theorem xcp_at (σ : xSt) (q0 q1 sp dp n : Nat) : xcp σ q0 q1 sp dp n q1 = va_cpy (σ q0) (σ q1) sp dp n := by unfold xcp; rw [if_pos rfl]
theorem nI_rem {a : Nat} {m : Nat} (ha : a < 2147483648) (hm : 0 < m) (hm2 : m < 2147483648) : nI a - nI a / nI m * nI m = nI (a % m) := pk_rem ha hm hm2
theorem nI_mul (a b : Nat) : nI a * nI b = nI (a * b) := (Int32.ofNat_mul a b).symm
/-! ===== what a run of calls has come to: the kept states, the state, the text, its length ===== -/
abbrev sS : Type := Nat → Int32
abbrev xA : Type := List sS × sS × (Nat → Int32) × Nat
def kp (H : List sS) (s : sS) : List sS := if H.length < 8 then H ++ [s] else H.tail ++ [s]
/-- the model's cells -/
def RMk (f : Nat → Int32) (u e : Int32) (H : List sS) : Prop := H.length ≤ 8 ∧ u = nI H.length ∧ ∃ e0, e0 < 8 ∧ e = nI e0 ∧ ∀ i x, H[i]? = some x → ∀ k, k < 660 → f (660 * ((e0 + i) % 8) + k) = x k
def RM (σ : xSt) (a : xA) : Prop := (∀ k, k < 660 → σ 1 k = a.2.1 k) ∧ RMk (σ 2) (σ 0 3) (σ 0 4) a.1 ∧ (a.2.2.2 ≤ 80 ∧ σ 0 6 = nI a.2.2.2 ∧ ∀ k, k < a.2.2.2 → σ 3 k = a.2.2.1 k)
theorem RM.frame {σ σ' : xSt} {a : xA} (h : RM σ a) (h1 : σ' 1 = σ 1) (h2 : σ' 2 = σ 2) (h3 : σ' 3 = σ 3) (h4 : σ' 0 3 = σ 0 3) (h5 : σ' 0 4 = σ 0 4) (h6 : σ' 0 6 = σ 0 6) : RM σ' a := by
  unfold RM at h ⊢
  rw [h1, h2, h3, h4, h5, h6]
  exact h
theorem RM.raised {σ : xSt} {a : xA} (h : RM σ a) (v : Int32) : RM (xu σ 0 0 v) a := by
  refine h.frame (xu_ne _ _ _ (by decide)) (xu_ne _ _ _ (by decide)) (xu_ne _ _ _ (by decide)) ?_ ?_ ?_ <;> rw [xu_at, upd_ne _ _ (by decide)]
/-- a write into the model's row of numbers -/
theorem RM.set {σ : xSt} {H : List sS} {s : sS} {tx : (Nat → Int32) × Nat} (h : RM σ (H, s, tx)) (j : Nat) (v : Int32) : RM (xu σ 1 j v) (H, upd s j v, tx) := by
  obtain ⟨h1, h2, h3⟩ := h
  refine ⟨fun k hk => ?_, ?_, ?_⟩
  · rw [xu_at]
    by_cases e : k = j
    · subst e; rw [upd_at]; exact (upd_at s k v).symm
    · rw [upd_ne _ _ e]; exact (h1 k hk).trans (upd_ne s v e).symm
  · rw [xu_ne _ _ _ (by decide), xu_ne _ _ _ (by decide)]; exact h2
  · rw [xu_ne _ _ _ (by decide), xu_ne _ _ _ (by decide)]; exact h3
theorem kp_get {H : List sS} {s : sS} (h8 : H.length ≤ 8) : (kp H s).length ≤ 8 := by
  unfold kp
  split
  · simp; omega
  · simp; omega
/-! the model's small answers -/