/-! ===== ERRORS: none is left in vain, the class ===== -/
def xT2 (s : sS) (σ : xSt) : Prop := ∀ k, k < cD s → (σ 22 k).toInt = plF s k ∧ (σ 23 k).toInt = plL s k
theorem xT2.frame {s : sS} {σ σ' : xSt} (h : xT2 s σ) (h1 : σ' 22 = σ 22) (h2 : σ' 23 = σ 23) : xT2 s σ' := fun k hk => by rw [h1, h2]; exact h k hk
theorem X_canBegin {s : sS} {σ : xSt} (hP : xT2 s σ) (h20 : cD s ≤ 20) {k b : Nat} (hk : k < cD s) (hb : b < 2000000000) : fX7_canBegin (nI k) (nI b) σ = some (if plF s k ≤ b ∧ (b : Int) ≤ plL s k then 1 else 0, σ) := by
  obtain ⟨p1, p2⟩ := hP k hk
  unfold fX7_canBegin
  rw [xr_n (by omega) (by decide), xr_n (by omega) (by decide)]
  by_cases g1 : plF s k ≤ b
  · rw [if_neg (show ¬ nI b < σ 22 k from fun h9 => by rw [fa_lt, p1, nI_toInt (by omega)] at h9; omega)]
    by_cases g2 : (b : Int) ≤ plL s k
    · rw [if_neg (show ¬ σ 23 k < nI b from fun h9 => by rw [fa_lt, p2, nI_toInt (by omega)] at h9; omega), if_pos ⟨g1, g2⟩]
    · rw [if_pos (show σ 23 k < nI b from (fa_lt _ _).mpr (by rw [p2, nI_toInt (by omega)]; omega)), if_neg (fun h9 => g2 h9.2)]
  · rw [if_pos (show nI b < σ 22 k from (fa_lt _ _).mpr (by rw [p1, nI_toInt (by omega)]; omega)), if_neg (fun h9 => g1 h9.1)]
/-- the earliest round that has a deck for a dough -/
theorem X_free {N : Nat} {σ : xSt} {H : List sS} {s : sS} {tx : (Nat → Int32) × Nat} (h : RX σ (H, s, tx)) (hI : Inv N s) (hP : xT2 s σ) {x : Nat} (hx : x < cD s) : ∀ (d i n : Nat), i + d = 40 → d < n → ∃ r, fX7_earliestFree_c2 n (nI x) (nI i) σ = some (r, σ) ∧ (r = -1 ∨ ∃ jj, jj < 40 ∧ r = nI jj ∧ ¬ s 4 ≤ σ 26 jj ∧ plF s x ≤ ((plB s + 10 * jj : Nat) : Int) ∧ ((plB s + 10 * jj : Nat) : Int) ≤ plL s x) := by
  have hcD := hI.caps.2.1
  have o := hI.oven.1
  unfold bt at o
  have hB : plB s < 200000 := by unfold plB; omega
  have a2 : σ 20 2 = s 4 := X_at_decks h
  intro d
  induction d with
  | zero =>
    intro i n hi hn
    obtain ⟨n, rfl⟩ : ∃ z, n = z + 1 := ⟨n - 1, by omega⟩
    obtain rfl : i = 40 := by omega
    rw [fX7_earliestFree_c2_s, if_pos (show (40 : Int32) ≤ nI 40 by decide)]
    exact ⟨-1, rfl, Or.inl rfl⟩
  | succ d ih =>
    intro i n hi hn
    obtain ⟨n, rfl⟩ : ∃ z, n = z + 1 := ⟨n - 1, by omega⟩
    have ih := ih (i + 1) n (by omega) (by omega)
    rw [fX7_earliestFree_c2_s, if_neg (show ¬ (40 : Int32) ≤ nI i from nI_ge (a := i) (b := 40) (by omega) (by decide)), xr_n (by omega) (by decide), a2]
    by_cases c : s 4 ≤ σ 26 i
    · rw [if_pos c, xl_t, nI_1]; exact ih
    · rw [if_neg c, X_beginOf h hI (by omega), xc2_t, X_canBegin hP hcD hx (by omega), xc2_t, x_i10]
      by_cases c2 : plF s x ≤ ((plB s + 10 * i : Nat) : Int) ∧ ((plB s + 10 * i : Nat) : Int) ≤ plL s x
      · rw [if_pos c2]
        exact ⟨nI i, rfl, Or.inr ⟨i, by omega, rfl, c, c2⟩⟩
      · rw [if_neg c2, xl_t, nI_1]; exact ih
def updB (pr : Nat → Bool) (x k : Nat) : Bool := if k = x then true else pr k
def prB (S : Nat → Nat) (pr : Nat → Bool) (i k : Nat) : Bool := pr k && decide (S k = i)
/-- the doughs of an order get their rounds one after another -/
theorem X_allLoop {N : Nat} {H : List sS} {s : sS} {tx : (Nat → Int32) × Nat} (hI : Inv N s) {l : List Nat} (h20 : l.length ≤ 20) (hp : Pm (fun k => k < cD s ∧ plF s k ≤ plL s k) l) : ∀ (d i n : Nat) (σ : xSt) (S : Nat → Nat) (pr : Nat → Bool), i + d = l.length → d < n → RX σ (H, s, tx) → xT2 s σ → ordIs 25 σ l → (∀ k, pr k = true ↔ ∃ a, a < i ∧ gl l a = k) → (∀ k, pr k = true → plF s k ≤ ((plB s + 10 * S k : Nat) : Int) ∧ ((plB s + 10 * S k : Nat) : Int) ≤ plL s k ∧ S k < 40) → (∀ jj, jj < 40 → σ 26 jj = nI (cnB (prB S pr jj) (cD s)) ∧ cnB (prB S pr jj) (cD s) ≤ (s 4).toInt.toNat) → ∃ r σ', fX7_allGetRounds_c10 n (nI l.length) (nI i) σ = some (r, σ') ∧ RX σ' (H, s, tx) ∧ (∀ q, q ≠ 26 → σ' q = σ q) ∧ (r = 0 ∨ ∃ S', feaS (plF s) (plL s) (cD s) (plB s) (s 4).toInt.toNat S') := by
  have hcD := hI.caps.2.1
  have o4 := hI.oven.2.2.2.2
  have e4 : s 4 = nI (s 4).toInt.toNat := bt_nI o4 (by decide)
  unfold bt at o4
  intro d
  induction d with
  | zero =>
    intro i n σ S pr hi hn h hP ho hpr hS htk
    obtain ⟨n, rfl⟩ : ∃ z, n = z + 1 := ⟨n - 1, by omega⟩
    obtain rfl : i = l.length := by omega
    rw [fX7_allGetRounds_c10_s, if_pos (nI_le (Nat.le_refl _) (by omega))]
    refine ⟨1, σ, rfl, h, fun _ _ => rfl, Or.inr ⟨S, fun k hk hk2 => ?_, fun jj => ?_⟩⟩
    · exact hS k ((hpr k).mpr ((hp.2 k).mp ⟨hk, hk2⟩))
    · by_cases c : jj < 40
      · have e : cnB (atS (plF s) (plL s) S jj) (cD s) = cnB (prB S pr jj) (cD s) := cnB_congr _ (fun k hk => by
          unfold atS prB
          have e1 : pr k = decide (plF s k ≤ plL s k) := by
            by_cases g : plF s k ≤ plL s k
            · rw [decide_eq_true g]; exact (hpr k).mpr ((hp.2 k).mp ⟨hk, g⟩)
            · rw [decide_eq_false g]
              cases hc : pr k with
              | false => rfl
              | true => exact absurd ((hp.2 k).mpr ((hpr k).mp hc)).2 g
          rw [e1, Bool.decide_and])
        rw [e]; exact (htk jj c).2
      · rw [cnB_zero (p := atS (plF s) (plL s) S jj) (cD s) (fun k hk => decide_eq_false (fun h9 : plF s k ≤ plL s k ∧ S k = jj => by
          have := (hS k ((hpr k).mpr ((hp.2 k).mp ⟨hk, h9.1⟩))).2.2
          omega))]
        exact Nat.zero_le _
  | succ d ih =>
    intro i n σ S pr hi hn h hP ho hpr hS htk
    obtain ⟨n, rfl⟩ : ∃ z, n = z + 1 := ⟨n - 1, by omega⟩
    have hil : i < l.length := by omega
    have hx := (hp.2 (gl l i)).mpr ⟨i, hil, rfl⟩
    rw [fX7_allGetRounds_c10_s, if_neg (nI_ge hil (by omega)), xr_n (by omega) (by decide), (ho i hil).2]
    obtain ⟨r, e1, e2⟩ := X_free h hI hP hx.1 40 0 xFU rfl (by decide)
    unfold fX7_earliestFree
    rw [show fX7_earliestFree_c2 xFU (nI (gl l i)) 0 σ = some (r, σ) from e1, xc2_t]
    by_cases c : r = -1
    · rw [if_pos c]
      exact ⟨0, σ, rfl, h, fun _ _ => rfl, Or.inl rfl⟩
    · rcases e2 with e2 | ⟨jj, j1, j2, j3, j4, j5⟩
      · exact absurd e2 c
      · obtain ⟨t1, t2⟩ := htk jj j1
        have t3 : cnB (prB S pr jj) (cD s) < (s 4).toInt.toNat := by
          by_cases g : cnB (prB S pr jj) (cD s) < (s 4).toInt.toNat
          · exact g
          · exact absurd (by rw [t1, e4]; exact nI_le (by omega) (by omega)) j3
        have np : pr (gl l i) = false := by
          cases hc : pr (gl l i) with
          | false => rfl
          | true =>
            obtain ⟨a, a1, a2⟩ := (hpr _).mp hc
            have := hp.1 a i (by omega) hil a2
            omega
        rw [if_neg c, j2, xr_n (by omega) (by decide), t1, xs_n (by omega) (by decide), nI_1, xl_t, nI_1]
        have f1 : fX σ (xu σ 26 jj (nI (cnB (prB S pr jj) (cD s) + 1))) := (fX.refl σ).xu 26 jj _ (by decide) (fun h9 => absurd h9 (by decide))
        have off : ∀ i2 k, k ≠ gl l i → prB (updN S (gl l i) jj) (updB pr (gl l i)) i2 k = prB S pr i2 k := fun i2 k hk => by
          unfold prB updN updB
          rw [if_neg hk, if_neg hk]
        have at1 : ∀ i2, prB (updN S (gl l i) jj) (updB pr (gl l i)) i2 (gl l i) = decide (jj = i2) := fun i2 => by
          unfold prB updN updB
          rw [if_pos rfl, if_pos rfl, Bool.true_and]
        have at0 : ∀ i2, prB S pr i2 (gl l i) = false := fun i2 => by
          unfold prB
          rw [np, Bool.false_and]
        have cj : cnB (prB (updN S (gl l i) jj) (updB pr (gl l i)) jj) (cD s) = cnB (prB S pr jj) (cD s) + 1 := cnB_one (at0 jj) (by rw [at1]; exact decide_eq_true rfl) (cD s) hx.1 (fun k _ hk => (off jj k hk).symm)
        have cn : ∀ i2, i2 ≠ jj → cnB (prB (updN S (gl l i) jj) (updB pr (gl l i)) i2) (cD s) = cnB (prB S pr i2) (cD s) := fun i2 hne => cnB_congr _ (fun k _ => by
          by_cases e : k = gl l i
          · rw [e, at1, at0]; exact decide_eq_false (fun h9 => hne h9.symm)
          · exact off i2 k e)
        obtain ⟨r', σ', g1, g2, g3, g4⟩ := ih (i + 1) n (xu σ 26 jj (nI (cnB (prB S pr jj) (cD s) + 1))) (updN S (gl l i) jj) (updB pr (gl l i)) (by omega) (by omega) (h.scr f1) (hP.frame (xu_ne _ _ _ (by decide)) (xu_ne _ _ _ (by decide))) (fun k hk => by rw [xu_ne _ _ _ (by decide)]; exact ho k hk) (fun k => by
          constructor
          · intro h9
            by_cases e : k = gl l i
            · exact ⟨i, by omega, e.symm⟩
            · have h9 : (if k = gl l i then true else pr k) = true := h9
              rw [if_neg e] at h9
              obtain ⟨a, a1, a2⟩ := (hpr k).mp h9
              exact ⟨a, by omega, a2⟩
          · intro ⟨a, a1, a2⟩
            show (if k = gl l i then true else pr k) = true
            by_cases e : k = gl l i
            · rw [if_pos e]
            · rw [if_neg e]
              refine (hpr k).mpr ⟨a, ?_, a2⟩
              by_cases e3 : a = i
              · rw [e3] at a2; exact absurd a2.symm e
              · omega) (fun k h9 => by
          have h9 : (if k = gl l i then true else pr k) = true := h9
          unfold updN
          by_cases e : k = gl l i
          · rw [if_pos e, e]; exact ⟨j4, j5, j1⟩
          · rw [if_neg e] at h9 ⊢; exact hS k h9) (fun i2 hi2 => by
          rw [xu_at]
          by_cases e : i2 = jj
          · rw [e, upd_at, cj]; exact ⟨rfl, by omega⟩
          · rw [upd_ne _ _ e, cn i2 e]; exact htk i2 hi2)
        exact ⟨r', σ', g1, g2, fun q hq => (g3 q hq).trans (xu_ne _ _ _ hq), g4⟩
theorem X_fill {q0 : Nat} : ∀ (d i n : Nat) (σ : xSt), i + d = 40 → d < n → (∀ k, k < i → σ q0 k = 0) → ∃ σ', fJ7_fill_53178_c5 q0 40 n 0 (nI i) (nI 40) σ = some σ' ∧ (∀ k, k < 40 → σ' q0 k = 0) ∧ ∀ q, q ≠ q0 → σ' q = σ q := by
  intro d
  induction d with
  | zero =>
    intro i n σ hi hn hk
    obtain ⟨n, rfl⟩ : ∃ z, n = z + 1 := ⟨n - 1, by omega⟩
    obtain rfl : i = 40 := by omega
    rw [fJ7_fill_53178_c5_s, if_pos (nI_le (Nat.le_refl _) (by decide))]
    exact ⟨σ, rfl, hk, fun _ _ => rfl⟩
  | succ d ih =>
    intro i n σ hi hn hk
    obtain ⟨n, rfl⟩ : ∃ z, n = z + 1 := ⟨n - 1, by omega⟩
    rw [fJ7_fill_53178_c5_s, if_neg (nI_ge (by omega) (by decide)), xs_n (by omega) (by decide), xl_t, nI_1]
    obtain ⟨σ', e1, e2, e3⟩ := ih (i + 1) n (xu σ q0 i 0) (by omega) (by omega) (fun k h9 => by
      rw [xu_at]
      by_cases e : k = i
      · rw [e, upd_at]
      · rw [upd_ne _ _ e]; exact hk k (by omega))
    exact ⟨σ', e1, e2, fun q hq => (e3 q hq).trans (xu_ne _ _ _ hq)⟩
theorem X_allGet {N : Nat} {σ : xSt} {H : List sS} {s : sS} {tx : (Nat → Int32) × Nat} (h : RX σ (H, s, tx)) (hI : Inv N s) {l : List Nat} (h20 : l.length ≤ 20) (hp : Pm (fun k => k < cD s ∧ plF s k ≤ plL s k) l) (hP : xT2 s σ) (ho : ordIs 25 σ l) : ∃ r σ', fX7_allGetRounds (nI l.length) σ = some (r, σ') ∧ RX σ' (H, s, tx) ∧ (∀ q, q ≠ 26 → σ' q = σ q) ∧ (r = 0 ∨ ∃ S', feaS (plF s) (plL s) (cD s) (plB s) (s 4).toInt.toNat S') := by
  obtain ⟨σ1, e1, e2, e3⟩ := X_fill (q0 := 26) 40 0 xFU σ rfl (by decide) (fun k hk => absurd hk (Nat.not_lt_zero k))
  have f1 : fX σ σ1 := fX.one 26 (by decide) (by decide) e3
  have z : ∀ jj, cnB (prB (fun _ => 0) (fun _ => false) jj) (cD s) = 0 := fun jj => cnB_zero _ (fun k _ => rfl)
  obtain ⟨r, σ2, g1, g2, g3, g4⟩ := X_allLoop (tx := tx) (H := H) hI h20 hp l.length 0 xFU σ1 (fun _ => 0) (fun _ => false) (Nat.zero_add _) (by show _ < 8192; omega) (h.scr f1) (hP.frame (e3 22 (by decide)) (e3 23 (by decide))) (fun k hk => by rw [e3 25 (by decide)]; exact ho k hk) (fun k => ⟨fun h9 => absurd h9 (by decide), fun ⟨a, a1, _⟩ => absurd a1 (Nat.not_lt_zero a)⟩) (fun k h9 => absurd h9 (by decide)) (fun jj hj => by rw [z]; exact ⟨e2 jj hj, Nat.zero_le _⟩)
  refine ⟨r, σ2, ?_, g2, fun q hq => (g3 q hq).trans (e3 q hq), g4⟩
  unfold fX7_allGetRounds fJ7_fill_53178
  rw [xl_t, show fJ7_fill_53178_c5 26 40 xFU 0 0 (Int32.ofNat 40) σ = some σ1 from e1, xc_t]
  exact g1
theorem X_vainLoop {N : Nat} {H : List sS} {s : sS} {tx : (Nat → Int32) × Nat} (hI : Inv N s) (hno : ¬ ∃ S', feaS (plF s) (plL s) (cD s) (plB s) (s 4).toInt.toNat S') : ∀ (d t n : Nat) (σ : xSt) (l : List Nat), t + d = 720 → d < n → RX σ (H, s, tx) → xT2 s σ → ordIs 25 σ l → l.length ≤ 20 → Pm (fun k => k < cD s ∧ plF s k ≤ plL s k) l → ∃ σ', fX7_leavesOneInVain_c65 n (nI l.length) (nI t) σ = some (0, σ') ∧ RX σ' (H, s, tx) := by
  intro d
  induction d with
  | zero =>
    intro t n σ l ht hn h hP ho hl hp
    obtain ⟨n, rfl⟩ : ∃ z, n = z + 1 := ⟨n - 1, by omega⟩
    obtain rfl : t = 720 := by omega
    rw [fX7_leavesOneInVain_c65_s, if_pos (show (720 : Int32) ≤ nI 720 by decide)]
    exact ⟨σ, rfl, h⟩
  | succ d ih =>
    intro t n σ l ht hn h hP ho hl hp
    obtain ⟨n, rfl⟩ : ∃ z, n = z + 1 := ⟨n - 1, by omega⟩
    obtain ⟨r, σ1, e1, e2, e3, e4⟩ := X_allGet h hI hl hp hP ho
    have r0 : r = 0 := by
      rcases e4 with e4 | e4
      · exact e4
      · exact absurd e4 hno
    obtain ⟨r7, σ2, l2, n1, n2, n3, n4, n5⟩ := X_nextOrder (Pm_sw (fun k => k < cD s ∧ plF s k ≤ plL s k)) (q0 := 25) (n0 := 20) (by decide) (σ := σ1) (l := l) (fun k hk => by rw [e3 25 (by decide)]; exact ho k hk) hp hl
    have f1 : fX σ1 σ2 := fX.one 25 (by decide) (by decide) n5
    rw [fX7_leavesOneInVain_c65_s, if_neg (show ¬ (720 : Int32) ≤ nI t from nI_ge (a := t) (b := 720) (by omega) (by decide)), e1, xc2_t, if_pos r0, n1, xc2_t]
    by_cases c : r7 = 0
    · rw [if_pos c]; exact ⟨σ2, rfl, e2.scr f1⟩
    · rw [if_neg c, xl_t, nI_1, ← n4]
      exact ih (t + 1) n σ2 l2 (by omega) (by omega) (e2.scr f1) (hP.frame (by rw [n5 22 (by decide), e3 22 (by decide)]) (by rw [n5 23 (by decide), e3 23 (by decide)])) n2 (by omega) n3
theorem X_vainInit {N : Nat} {H : List sS} {s : sS} {tx : (Nat → Int32) × Nat} (hI : Inv N s) (hno : ¬ ∃ S', feaS (plF s) (plL s) (cD s) (plB s) (s 4).toInt.toNat S') : ∀ (d k n : Nat) (σ : xSt) (l : List Nat), k + d = cD s → d < n → RX σ (H, s, tx) → xP s σ (plR s) → ordIs 25 σ l → l.length ≤ k → s32 (fun k => if plF s k ≤ plL s k then 1 else 0) k = nI l.length → Pm (fun x => x < k ∧ plF s x ≤ plL s x) l → ∃ σ', fX7_leavesOneInVain_c28 n (plN s) (nI l.length) (nI k) σ = some (0, σ') ∧ RX σ' (H, s, tx) := by
  have hcD := hI.caps.2.1
  intro d
  induction d with
  | zero =>
    intro k n σ l hk hn h hP ho hl hs hp
    obtain ⟨n, rfl⟩ : ∃ z, n = z + 1 := ⟨n - 1, by omega⟩
    obtain rfl : k = cD s := by omega
    have a12 : σ 12 7 = nI (cD s) := (X_at_ndough h).trans hI.caps.2.2.2.2.2.2.1
    have hs : plN s = nI l.length := hs
    rw [fX7_leavesOneInVain_c28_s, a12, if_pos (nI_le (Nat.le_refl _) (by omega)), hs]
    exact X_vainLoop hI hno 720 0 xFU σ l rfl (by decide) h hP.1 ho (by omega) hp
  | succ d ih =>
    intro k n σ l hk hn h hP ho hl hs hp
    obtain ⟨n, rfl⟩ : ∃ z, n = z + 1 := ⟨n - 1, by omega⟩
    have a12 : σ 12 7 = nI (cD s) := (X_at_ndough h).trans hI.caps.2.2.2.2.2.2.1
    have es : s32 (fun k => if plF s k ≤ plL s k then (1 : Int32) else 0) (k + 1) = s32 (fun k => if plF s k ≤ plL s k then (1 : Int32) else 0) k + (if plF s k ≤ plL s k then 1 else 0) := rfl
    rw [fX7_leavesOneInVain_c28_s, a12, if_neg (nI_ge (by omega) (by omega)), X_isInPlan hP (by omega) hcD, xc2_t, x_i10]
    by_cases g : plF s k ≤ plL s k
    · rw [if_pos g, xs_n (by omega) (by decide), xl_t, xl_t, nI_1, nI_1]
      have f1 : fX σ (xu σ 25 l.length (nI k)) := (fX.refl σ).xu 25 _ _ (by decide) (fun h9 => absurd h9 (by decide))
      have l1 : (l ++ [k]).length = l.length + 1 := by rw [List.length_append, List.length_singleton]
      have hlt : ∀ a, a < l.length → gl l a < k := fun a ha => ((hp.2 _).mpr ⟨a, ha, rfl⟩).1
      have r := ih (k + 1) n (xu σ 25 l.length (nI k)) (l ++ [k]) (by omega) (by omega) (h.scr f1) ⟨fun x hx => by rw [xu_ne _ _ _ (by decide), xu_ne _ _ _ (by decide)]; exact hP.1 x hx, fun x hx => by rw [xu_ne _ _ _ (by decide)]; exact hP.2 x hx⟩ (fun a ha => by
        rw [l1] at ha
        rw [gl_app, xu_at]
        by_cases e : a = l.length
        · rw [if_neg (by omega), if_pos e, e, upd_at]; exact ⟨by omega, rfl⟩
        · rw [if_pos (by omega), upd_ne _ _ e]; exact ho a (by omega)) (by omega) (by rw [es, hs, if_pos g, l1]; exact nI_1 _) ⟨fun a b ha hb hab => by
          rw [l1] at ha hb
          rw [gl_app, gl_app] at hab
          by_cases ca : a < l.length
          · rw [if_pos ca] at hab
            have := hlt a ca
            by_cases cb : b < l.length
            · rw [if_pos cb] at hab; exact hp.1 a b ca cb hab
            · rw [if_neg cb, if_pos (by omega)] at hab; omega
          · rw [if_neg ca, if_pos (by omega)] at hab
            by_cases cb : b < l.length
            · rw [if_pos cb] at hab
              have := hlt b cb
              omega
            · omega, fun x => by
          constructor
          · intro ⟨x1, x2⟩
            by_cases e : x = k
            · exact ⟨l.length, by omega, by rw [gl_app, if_neg (by omega), if_pos rfl]; exact e.symm⟩
            · obtain ⟨a, a1, a2⟩ := (hp.2 x).mp ⟨by omega, x2⟩
              exact ⟨a, by omega, by rw [gl_app, if_pos a1]; exact a2⟩
          · intro ⟨a, a1, a2⟩
            rw [l1] at a1
            rw [gl_app] at a2
            by_cases ca : a < l.length
            · rw [if_pos ca] at a2
              have := (hp.2 x).mpr ⟨a, ca, a2⟩
              exact ⟨by have := this.1; omega, this.2⟩
            · rw [if_neg ca, if_pos (by omega)] at a2
              rw [← a2]; exact ⟨by omega, g⟩⟩
      rw [l1] at r
      exact r
    · rw [if_neg g, xl_t, nI_1]
      refine ih (k + 1) n σ l (by omega) (by omega) h hP ho (by omega) (by rw [es, hs, if_neg g, Int32.add_zero]) ⟨hp.1, fun x => ?_⟩
      rw [← hp.2 x]
      constructor
      · intro ⟨x1, x2⟩
        refine ⟨?_, x2⟩
        by_cases e : x = k
        · rw [e] at x2; exact absurd x2 g
        · omega
      · intro ⟨x1, x2⟩; exact ⟨by omega, x2⟩
theorem s32_nil {f : Nat → Int32} : ∀ n, (∀ k, k < n → f k = 0) → s32 f n = 0
  | 0, _ => rfl
  | n + 1, h => by
    show s32 f n + f n = 0
    rw [s32_nil n (fun k hk => h k (by omega)), h n (by omega)]
    rfl
theorem X_noVain {N : Nat} {σ : xSt} {H : List sS} {s : sS} {tx : (Nat → Int32) × Nat} (h : RX σ (H, s, tx)) (hI : Inv N s) : ∃ σ', fX7_leavesOneInVain σ = some (0, σ') ∧ RX σ' (H, s, tx) := by
  have hcD := hI.caps.2.1
  have o := hI.oven.1
  unfold bt at o
  have hB : plB s < 200000 := by unfold plB; omega
  obtain ⟨σ1, e1, h1, p1, f1⟩ := X_make h hI
  unfold fX7_leavesOneInVain fX7_doughsInPlan fX7_doughsWithoutRound
  rw [e1, xc_t, show fX7_doughsInPlan_c4 xFU 0 0 σ1 = some (plN s, σ1) from X_inPlanLoop h1 hI p1 (cD s) 0 xFU (Nat.zero_add _) (by show cD s < 8192; omega), xc2_t]
  by_cases c1 : 6 < plN s
  · rw [if_pos c1]; exact ⟨σ1, rfl, h1⟩
  · rw [if_neg c1, show fX7_doughsWithoutRound_c4 xFU 0 0 σ1 = some (plW s, σ1) from X_withoutLoop h1 hI p1 (cD s) 0 xFU (Nat.zero_add _) (by show cD s < 8192; omega), xc2_t]
    by_cases c2 : plW s = 0
    · rw [if_pos c2]; exact ⟨σ1, rfl, h1⟩
    · rw [if_neg c2]
      have hno : ¬ ∃ S', feaS (plF s) (plL s) (cD s) (plB s) (s 4).toInt.toNat S' := fun ⟨S, hS⟩ => by
        refine c2 (s32_nil (cD s) (fun k hk => ?_))
        refine if_neg (fun h9 => ?_)
        exact edf_done (by omega) hS hk h9.1 h9.2
      exact X_vainInit hI hno (cD s) 0 xFU σ1 [] (Nat.zero_add _) (by show cD s < 8192; omega) h1 p1 (fun k hk => absurd hk (Nat.not_lt_zero k)) (Nat.le_refl 0) rfl ⟨fun a b ha _ _ => absurd ha (Nat.not_lt_zero a), fun x => ⟨fun h9 => absurd h9.1 (Nat.not_lt_zero x), fun ⟨a, a1, _⟩ => absurd a1 (Nat.not_lt_zero a)⟩⟩
