/-! isMixed: no mix by tenths costs less -/
theorem FR_r {f : Nat → Int32} {X : Nat → Nat} (hX : FR X f) {β : Type} (K : Int32 → Option β) : xrs f 4 0 K = K (nI (X 0)) ∧ xrs f 4 1 K = K (nI (X 1)) ∧ xrs f 4 2 K = K (nI (X 2)) ∧ xrs f 4 3 K = K (nI (X 3)) := by
  have q0 : xrs f 4 (nI 0) K = K (f 0) := xrs_n (by omega) (by decide)
  have q1 : xrs f 4 (nI 1) K = K (f 1) := xrs_n (by omega) (by decide)
  have q2 : xrs f 4 (nI 2) K = K (f 2) := xrs_n (by omega) (by decide)
  have q3 : xrs f 4 (nI 3) K = K (f 3) := xrs_n (by omega) (by decide)
  rw [hX 0 (by omega)] at q0
  rw [hX 1 (by omega)] at q1
  rw [hX 2 (by omega)] at q2
  rw [hX 3 (by omega)] at q3
  exact ⟨q0, q1, q2, q3⟩
theorem sN4_I (S : Nat → Nat) (a b c e : Nat) : nI a * nI (S 0) + nI b * nI (S 1) + nI c * nI (S 2) + nI e * nI (S 3) = nI (sN4 S a b c e) := by
  rw [nI_mul, nI_mul, nI_mul, nI_mul, nI_add, nI_add, nI_add]
  rfl
theorem lg_le {x top bot : Nat} (hx : x < 2000) (ht : top < 2000000000) (hb : bot < 100000) (h : 10 * top ≤ x * bot) : 0 ≤ lg_cmp ((nI x).toInt64 * (nI bot).toInt64) (10 * (nI top).toInt64) := by
  refine (lg_cmp_ge _ _).mpr (Int64.le_iff_toInt_le.mpr ?_)
  have e10 : (10 : Int64) = (nI 10).toInt64 := by decide
  have t1 : (nI x).toInt = (x : Int) := nI_toInt (by omega)
  have t2 : (nI bot).toInt = (bot : Int) := nI_toInt (by omega)
  have t3 : (nI top).toInt = (top : Int) := nI_toInt (by omega)
  have t4 : (nI 10).toInt = 10 := nI_toInt (by omega)
  rw [e10, i64m, i64m, t1, t2, t3, t4]
  have h2 : ((10 * top : Nat) : Int) ≤ ((x * bot : Nat) : Int) := Int.ofNat_le.mpr h
  rw [Int.natCast_mul, Int.natCast_mul] at h2
  exact h2
theorem P_c391 {s : sS} {S C P : Nat → Nat} {rd1 rd2 rd3 : Nat → Int32} (hF : FM s S C P) (h1 : FR S rd1) (h2 : FR C rd2) (h3 : FR P rd3) {lo hi top bot : Nat} (hlo : lo ≤ 200) (hhi : hi ≤ 200) (ht : top < 2000000000) (hb : bot < 100000) (hno : ∀ a b c e, a + b + c + e = 10 → feas s lo hi (grd a b c e, 1) → 10 * top ≤ sN4 C a b c e * bot) (σ : xSt) (k368 : Int32 → Int32 → Int64 → Int64 → Int32 → (Nat → Int32) → (Nat → Int32) → (Nat → Int32) → xSt → Option (Int32 × xSt)) (k378 : Int32 → Int32 → Int64 → Int64 → Int32 → Int32 → (Nat → Int32) → (Nat → Int32) → (Nat → Int32) → xSt → Option (Int32 × xSt)) {a b : Nat} (hab : a + b ≤ 10) : ∀ (d c n : Nat), a + b + c + d = 11 → d < n → fL_isMixed_c391 k368 k378 n (nI lo) (nI hi) (nI top).toInt64 (nI bot).toInt64 (nI a) (nI b) (nI c) rd1 rd2 rd3 σ = k378 (nI lo) (nI hi) (nI top).toInt64 (nI bot).toInt64 (nI a) (nI (b + 1)) rd1 rd2 rd3 σ := by
  intro d
  induction d with
  | zero =>
    intro c n hc hn
    match n, hn with
    | n + 1, _ =>
      rw [fL_isMixed_c391_s, nI_add, nI_add, if_pos (show (10 : Int32) < nI (a + b + c) from nI_lt (a := 10) (by omega) (by omega)), xl_t, ← nI_succ]
  | succ d ih =>
    intro c n hc hn
    match n, hn with
    | n + 1, hn =>
      have ih := ih (c + 1) n (by omega) (by omega)
      have e10 : (10 : Int32) = nI 10 := rfl
      have sb := sN4_b (S := S) (B := 200) (fun f hf => (hF f hf).2.2.2.1) (show a + b + c + (10 - a - b - c) = 10 by omega)
      have cb := sN4_b (S := C) (B := 99) (fun f hf => (hF f hf).2.2.2.2.1) (show a + b + c + (10 - a - b - c) = 10 by omega)
      have p0 := (hF 0 (by omega)).2.2.2.2.2
      have p1 := (hF 1 (by omega)).2.2.2.2.2
      have p2 := (hF 2 (by omega)).2.2.2.2.2
      have p3 := (hF 3 (by omega)).2.2.2.2.2
      have no : fL_isMixed_c514 k368 k378 (fL_isMixed_c391 k368 k378 n) (nI lo) (nI hi) (nI top).toInt64 (nI bot).toInt64 (nI a) (nI b) (nI c) (nI (10 - a - b - c)) rd1 rd2 rd3 σ = k378 (nI lo) (nI hi) (nI top).toInt64 (nI bot).toInt64 (nI a) (nI (b + 1)) rd1 rd2 rd3 σ := by
        unfold fL_isMixed_c514 fL_isMixed_c515
        rw [if_pos rfl, xl_t, ← nI_succ]
        exact ih
      rw [fL_isMixed_c391_s, nI_add, nI_add, if_neg (show ¬ (10 : Int32) < nI (a + b + c) from nI_nlt (a := 10) (by omega) (by omega)), xl_t, rest10 (by omega), (FR_r h1 _).1, (FR_r h1 _).2.1, (FR_r h1 _).2.2.1, (FR_r h1 _).2.2.2, xl_t, sN4_I S, (FR_r h3 _).1]
      by_cases g0 : P 0 < 10 * a
      · rw [if_pos (show nI (P 0) < 10 * nI a by rw [e10, nI_mul]; exact nI_lt g0 (by omega))]
        exact no
      rw [if_neg (show ¬ nI (P 0) < 10 * nI a by rw [e10, nI_mul]; exact nI_nlt (by omega) (by omega)), (FR_r h3 _).2.1]
      by_cases g1 : P 1 < 10 * b
      · rw [if_pos (show nI (P 1) < 10 * nI b by rw [e10, nI_mul]; exact nI_lt g1 (by omega))]
        exact no
      rw [if_neg (show ¬ nI (P 1) < 10 * nI b by rw [e10, nI_mul]; exact nI_nlt (by omega) (by omega)), (FR_r h3 _).2.2.1]
      by_cases g2 : P 2 < 10 * c
      · rw [if_pos (show nI (P 2) < 10 * nI c by rw [e10, nI_mul]; exact nI_lt g2 (by omega))]
        exact no
      rw [if_neg (show ¬ nI (P 2) < 10 * nI c by rw [e10, nI_mul]; exact nI_nlt (by omega) (by omega)), (FR_r h3 _).2.2.2]
      by_cases g3 : P 3 < 10 * (10 - a - b - c)
      · rw [if_pos (show nI (P 3) < 10 * nI (10 - a - b - c) by rw [e10, nI_mul]; exact nI_lt g3 (by omega))]
        exact no
      rw [if_neg (show ¬ nI (P 3) < 10 * nI (10 - a - b - c) by rw [e10, nI_mul]; exact nI_nlt (by omega) (by omega))]
      by_cases g4 : sN4 S a b c (10 - a - b - c) < 10 * lo
      · rw [if_pos (show nI (sN4 S a b c (10 - a - b - c)) < 10 * nI lo by rw [e10, nI_mul]; exact nI_lt g4 (by omega))]
        exact no
      rw [if_neg (show ¬ nI (sN4 S a b c (10 - a - b - c)) < 10 * nI lo by rw [e10, nI_mul]; exact nI_nlt (by omega) (by omega))]
      by_cases g5 : 10 * hi < sN4 S a b c (10 - a - b - c)
      · rw [if_pos (show 10 * nI hi < nI (sN4 S a b c (10 - a - b - c)) by rw [e10, nI_mul]; exact nI_lt g5 (by omega))]
        exact no
      have hf := grd_feas hF (lo := lo) (hi := hi) (show a + b + c + (10 - a - b - c) = 10 by omega) (by omega) (by omega) (by omega) (by omega) (by omega) (by omega)
      have hg := lg_le (by omega) ht hb (hno a b c (10 - a - b - c) (by omega) hf)
      rw [if_neg (show ¬ 10 * nI hi < nI (sN4 S a b c (10 - a - b - c)) by rw [e10, nI_mul]; exact nI_nlt (by omega) (by omega))]
      unfold fL_isMixed_c515
      rw [if_neg (show ¬ (1 : Int32) = 0 by decide), (FR_r h2 _).1, (FR_r h2 _).2.1, (FR_r h2 _).2.2.1, (FR_r h2 _).2.2.2, sN4_I C, if_pos hg, xl_t, ← nI_succ]
      exact ih
theorem P_c368 {s : sS} {S C P : Nat → Nat} {rd1 rd2 rd3 : Nat → Int32} (hF : FM s S C P) (h1 : FR S rd1) (h2 : FR C rd2) (h3 : FR P rd3) {lo hi top bot : Nat} (hlo : lo ≤ 200) (hhi : hi ≤ 200) (ht : top < 2000000000) (hb : bot < 100000) (hno : ∀ a b c e, a + b + c + e = 10 → feas s lo hi (grd a b c e, 1) → 10 * top ≤ sN4 C a b c e * bot) (σ : xSt) : fL_isMixed_c368 xFU (nI lo) (nI hi) (nI top).toInt64 (nI bot).toInt64 0 rd1 rd2 rd3 σ = some (1, σ) := by
  have l13 : ∀ (k368 : Int32 → Int32 → Int64 → Int64 → Int32 → (Nat → Int32) → (Nat → Int32) → (Nat → Int32) → xSt → Option (Int32 × xSt)) (a : Nat), a ≤ 10 → ∀ (d b n : Nat), a + b + d = 11 → d < n → fL_isMixed_c378 k368 n (nI lo) (nI hi) (nI top).toInt64 (nI bot).toInt64 (nI a) (nI b) rd1 rd2 rd3 σ = k368 (nI lo) (nI hi) (nI top).toInt64 (nI bot).toInt64 (nI (a + 1)) rd1 rd2 rd3 σ := by
    intro k368 a ha d
    induction d with
    | zero =>
      intro b n hb2 hn
      match n, hn with
      | n + 1, _ =>
        rw [fL_isMixed_c378_s, nI_add, if_pos (show (10 : Int32) < nI (a + b) from nI_lt (a := 10) (by omega) (by omega)), xl_t, ← nI_succ]
    | succ d ih =>
      intro b n hb2 hn
      match n, hn with
      | n + 1, hn =>
        rw [fL_isMixed_c378_s, nI_add, if_neg (show ¬ (10 : Int32) < nI (a + b) from nI_nlt (a := 10) (by omega) (by omega))]
        have := P_c391 hF h1 h2 h3 hlo hhi ht hb hno σ k368 (fL_isMixed_c378 k368 n) (a := a) (b := b) (by omega) (11 - a - b) 0 xFU (by omega) (by have h9 : xFU = 8192 := rfl; omega)
        exact this.trans (ih (b + 1) n (by omega) (by omega))
  have l3 : ∀ (d a n : Nat), a + d = 11 → d < n → fL_isMixed_c368 n (nI lo) (nI hi) (nI top).toInt64 (nI bot).toInt64 (nI a) rd1 rd2 rd3 σ = some (1, σ) := by
    intro d
    induction d with
    | zero =>
      intro a n ha hn
      match n, hn with
      | n + 1, _ =>
        rw [fL_isMixed_c368_s, if_pos (show (10 : Int32) < nI a from nI_lt (a := 10) (by omega) (by omega))]
    | succ d ih =>
      intro a n ha hn
      match n, hn with
      | n + 1, hn =>
        rw [fL_isMixed_c368_s, if_neg (show ¬ (10 : Int32) < nI a from nI_nlt (a := 10) (by omega) (by omega))]
        have := l13 (fL_isMixed_c368 n) a (by omega) (11 - a) 0 xFU (by omega) (by have h9 : xFU = 8192 := rfl; omega)
        exact this.trans (ih (a + 1) n (by omega) (by omega))
  exact l3 11 0 xFU (by omega) (by have h9 : xFU = 8192 := rfl; omega)
