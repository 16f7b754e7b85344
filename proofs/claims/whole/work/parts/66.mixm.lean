/-! ===== THE CHEAPEST MIX: the model, and both ===== -/
def fR (σ σ' : xSt) : Prop := (∀ q, 1 ≤ q → q ≤ 3 → σ' q = σ q) ∧ ∀ k, k < 14 → σ' 0 k = σ 0 k
theorem fR.refl (σ : xSt) : fR σ σ := ⟨fun _ _ _ => rfl, fun _ _ => rfl⟩
theorem fR.trans {a b c : xSt} (h : fR a b) (h2 : fR b c) : fR a c := ⟨fun q h1 h3 => (h2.1 q h1 h3).trans (h.1 q h1 h3), fun k hk => (h2.2 k hk).trans (h.2 k hk)⟩
theorem fR.xu {σ σ' : xSt} (h : fR σ σ') (q k : Nat) (v : Int32) (hq : 4 ≤ q ∨ (q = 0 ∧ 14 ≤ k)) : fR σ (xu σ' q k v) := by
  refine ⟨fun q' h1 h3 => (xu_ne _ _ _ (by omega)).trans (h.1 q' h1 h3), fun k' hk => ?_⟩
  by_cases e : q = 0
  · rw [e, xu_at, upd_ne _ _ (by omega)]; exact h.2 k' hk
  · rw [xu_ne _ _ _ (fun h9 => e h9.symm)]; exact h.2 k' hk
theorem RM.scr2 {σ σ' : xSt} {a : xA} (h : RM σ a) (f : fR σ σ') : RM σ' a := h.frame (f.1 1 (by decide) (by decide)) (f.1 2 (by decide) (by decide)) (f.1 3 (by decide) (by decide)) (f.2 3 (by decide)) (f.2 4 (by decide)) (f.2 6 (by decide))
/-! how a flour is in a corner -/
def dg (k f : Nat) : Nat := k / 3 ^ f % 3
def mS (k f : Nat) : Bool := decide (dg k f = 1)
theorem M_how {k f : Nat} (hk : k < 81) (σ : xSt) : ∀ (d g n : Nat), g + d = f → d < n → f < 100 → fX12_how_c4 n (nI f) (nI (k / 3 ^ g)) (nI g) σ = some (nI (dg k f), σ) := by
  intro d
  induction d with
  | zero =>
    intro g n hg hn hf
    obtain ⟨n, rfl⟩ : ∃ z, n = z + 1 := ⟨n - 1, by omega⟩
    obtain rfl : g = f := by omega
    have := Nat.div_le_self k (3 ^ g)
    rw [fX12_how_c4_s, if_pos (nI_le (Nat.le_refl _) (by omega)), show (3 : Int32) = nI 3 from rfl, nI_rem (by omega) (by decide) (by decide)]
    rfl
  | succ d ih =>
    intro g n hg hn hf
    obtain ⟨n, rfl⟩ : ∃ z, n = z + 1 := ⟨n - 1, by omega⟩
    have := Nat.div_le_self k (3 ^ g)
    rw [fX12_how_c4_s, if_neg (nI_ge (by omega) (by omega)), show (3 : Int32) = nI 3 from rfl, nI_divN (by omega) (by decide) (by decide), Nat.div_div_eq_div_mul, ← Nat.pow_succ, xl_t, xl_t, nI_1]
    exact ih (g + 1) n (by omega) (by omega) hf
theorem M_howE {k f : Nat} (hk : k < 81) (hf : f < 4) (σ : xSt) : fX12_how (nI k) (nI f) σ = some (nI (dg k f), σ) := by
  have h := M_how (f := f) hk σ f 0 xFU (Nat.zero_add _) (by show f < 8192; omega) (by omega)
  rw [Nat.pow_zero, Nat.div_one] at h
  exact h
theorem dg_lt (k f : Nat) : dg k f < 3 := Nat.mod_lt _ (by decide)
theorem M_freeIn {k : Nat} (hk : k < 81) (σ : xSt) : ∀ (d f n : Nat), f + d = 4 → d < n → ∃ r, fX12_freeIn_c2 n (nI k) (nI f) σ = some (enc r, σ) ∧ (match r with | none => ∀ g, f ≤ g → g < 4 → dg k g ≠ 2 | some i => f ≤ i ∧ i < 4 ∧ dg k i = 2 ∧ ∀ g, f ≤ g → g < i → dg k g ≠ 2) := by
  intro d
  induction d with
  | zero =>
    intro f n hf hn
    obtain ⟨n, rfl⟩ : ∃ z, n = z + 1 := ⟨n - 1, by omega⟩
    obtain rfl : f = 4 := by omega
    rw [fX12_freeIn_c2_s, if_pos (show (4 : Int32) ≤ nI 4 by decide)]
    exact ⟨none, rfl, fun g h1 h2 => by omega⟩
  | succ d ih =>
    intro f n hf hn
    obtain ⟨n, rfl⟩ : ∃ z, n = z + 1 := ⟨n - 1, by omega⟩
    have hd := dg_lt k f
    rw [fX12_freeIn_c2_s, if_neg (show ¬ (4 : Int32) ≤ nI f from nI_ge (a := f) (b := 4) (by omega) (by decide)), M_howE hk (by omega), xc2_t]
    by_cases c : dg k f = 2
    · rw [if_pos (show nI (dg k f) = 2 by rw [c]; rfl)]
      exact ⟨some f, rfl, Nat.le_refl _, by omega, c, fun g h1 h2 => by omega⟩
    · rw [if_neg (show ¬ nI (dg k f) = 2 from fun h9 => c ((nI_eq (a := dg k f) (b := 2) (by omega) (by decide)).mp h9)), xl_t, nI_1]
      obtain ⟨r, e1, e2⟩ := ih (f + 1) n (by omega) (by omega)
      refine ⟨r, e1, ?_⟩
      cases r with
      | none =>
        intro g h1 h2
        by_cases e : g = f
        · rw [e]; exact c
        · exact e2 g (by omega) h2
      | some i =>
        obtain ⟨g1, g2, g3, g4⟩ := e2
        refine ⟨by omega, g2, g3, fun g h1 h2 => ?_⟩
        by_cases e : g = f
        · rw [e]; exact c
        · exact g4 g (by omega) h2
theorem M_fixes {N : Nat} {H : List sS} {s : sS} {tx : (Nat → Int32) × Nat} (hI : Inv N s) {k : Nat} (hk : k < 81) {by_ : Int32} (hb : bt by_ 1 200) : ∀ (d f n : Nat) (σ : xSt), f + d = 4 → d < n → RM σ (H, s, tx) → (∀ g, g < f → (σ 9 g).toInt = eS s (mS k) g * by_.toInt) → ∃ σ', fX12_fixes_c7 n (nI k) by_ (nI f) σ = some σ' ∧ RM σ' (H, s, tx) ∧ fR σ σ' ∧ σ' 10 = σ 10 ∧ σ' 0 = σ 0 ∧ ∀ g, g < 4 → (σ' 9 g).toInt = eS s (mS k) g * by_.toInt := by
  unfold bt at hb
  intro d
  induction d with
  | zero =>
    intro f n σ hf hn h hg
    obtain ⟨n, rfl⟩ : ∃ z, n = z + 1 := ⟨n - 1, by omega⟩
    obtain rfl : f = 4 := by omega
    rw [fX12_fixes_c7_s, if_pos (show (4 : Int32) ≤ nI 4 by decide)]
    exact ⟨σ, rfl, h, fR.refl σ, rfl, rfl, hg⟩
  | succ d ih =>
    intro f n σ hf hn h hg
    obtain ⟨n, rfl⟩ : ∃ z, n = z + 1 := ⟨n - 1, by omega⟩
    have hf4 : f < 4 := by omega
    have hd := dg_lt k f
    have fb := fl_b hI hf4
    have fin : ∀ v : Int32, v.toInt = eS s (mS k) f * by_.toInt → ∃ σ', fX12_fixes_c7 n (nI k) by_ (nI (f + 1)) (xu σ 9 f v) = some σ' ∧ RM σ' (H, s, tx) ∧ fR σ σ' ∧ σ' 10 = σ 10 ∧ σ' 0 = σ 0 ∧ ∀ g, g < 4 → (σ' 9 g).toInt = eS s (mS k) g * by_.toInt := fun v hv => by
      have f1 : fR σ (xu σ 9 f v) := (fR.refl σ).xu 9 f _ (by omega)
      obtain ⟨σ', e1, e2, e3, e4, e5, e6⟩ := ih (f + 1) n (xu σ 9 f v) (by omega) (by omega) (h.scr2 f1) (fun g h9 => by
        rw [xu_at]
        by_cases e : g = f
        · rw [e, upd_at]; exact hv
        · rw [upd_ne _ _ e]; exact hg g (by omega))
      exact ⟨σ', e1, e2, f1.trans e3, e4.trans (xu_ne _ _ _ (by decide)), e5.trans (xu_ne _ _ _ (by decide)), e6⟩
    have a255 : σ 1 (255 + f) = s (255 + f) := M_at2 h (by omega)
    rw [fX12_fixes_c7_s, if_neg (show ¬ (4 : Int32) ≤ nI f from nI_ge (a := f) (b := 4) (by omega) (by decide)), M_howE hk hf4, xc2_t]
    by_cases c : dg k f = 1
    · rw [if_pos (show nI (dg k f) = 1 by rw [c]; rfl), show (255 : Int32) = nI 255 from rfl, nI_add, xr_n (by omega) (by decide), a255, xs_n (by omega) (by decide), xl_t, nI_1]
      refine fin _ ?_
      have p := mulNN (a := cpI s f) (b := by_.toInt) (A := 100) (B := 200) (by omega) (by omega) (by omega) (by omega)
      rw [i32_mul (by show _ ≤ cpI s f * _; omega) (by show cpI s f * _ < _; omega)]
      unfold eS mS
      rw [if_pos ⟨hf4, decide_eq_true c⟩]; rfl
    · rw [if_neg (show ¬ nI (dg k f) = 1 from fun h9 => c ((nI_eq (a := dg k f) (b := 1) (by omega) (by decide)).mp h9)), xs_n (by omega) (by decide), xl_t, nI_1]
      refine fin 0 ?_
      unfold eS mS
      rw [if_neg (fun h9 => c (of_decide_eq_true h9.2)), Int.zero_mul]; rfl
theorem M_fixesE {N : Nat} {σ : xSt} {H : List sS} {s : sS} {tx : (Nat → Int32) × Nat} (h : RM σ (H, s, tx)) (hI : Inv N s) {k : Nat} (hk : k < 81) {by_ : Int32} (hb : bt by_ 1 200) : ∃ σ', fX12_fixes (nI k) by_ σ = some σ' ∧ RM σ' (H, s, tx) ∧ fR σ σ' ∧ σ' 10 = σ 10 ∧ σ' 0 14 = by_ ∧ σ' 0 15 = σ 0 15 ∧ ∀ g, g < 4 → (σ' 9 g).toInt = eS s (mS k) g * by_.toInt := by
  have f1 : fR σ (xu σ 0 14 by_) := (fR.refl σ).xu 0 14 _ (by decide)
  obtain ⟨σ', e1, e2, e3, e4, e5, e6⟩ := M_fixes (tx := tx) (H := H) hI hk hb 4 0 xFU (xu σ 0 14 by_) rfl (by decide) (h.scr2 f1) (fun g h9 => absurd h9 (Nat.not_lt_zero g))
  refine ⟨σ', ?_, e2, f1.trans e3, e4.trans (xu_ne _ _ _ (by decide)), by rw [e5, xu_at, upd_at], by rw [e5, xu_at, upd_ne _ _ (by decide)], e6⟩
  unfold fX12_fixes
  rw [xp_t]
  exact e1
/-! sums -/
def mtI (s : sS) (a : Int32) (f : Nat) : Int := if a = -1 then 1 else (s (a.toNatClampNeg + f)).toInt
theorem M_sumOf {N : Nat} {σ : xSt} {H : List sS} {s : sS} {tx : (Nat → Int32) × Nat} (h : RM σ (H, s, tx)) (hI : Inv N s) {a : Int32} (ha : a = -1 ∨ a = nI 247 ∨ a = nI 251) {v : Nat → Int} (hv : ∀ f, f < 4 → (σ 9 f).toInt = v f ∧ -200000 ≤ v f ∧ v f ≤ 200000) : ∀ (d f n : Nat) (x : Int32), f + d = 4 → d < n → x.toInt = sumI (fun k => v k * mtI s a k) f → -199800000 * (f : Int) ≤ x.toInt → x.toInt ≤ 199800000 * f → ∃ r, fX12_sumOf_c4 n a x (nI f) σ = some (r, σ) ∧ r.toInt = sumI (fun k => v k * mtI s a k) 4 := by
  intro d
  induction d with
  | zero =>
    intro f n x hf hn hx ha0 ha1
    obtain ⟨n, rfl⟩ : ∃ z, n = z + 1 := ⟨n - 1, by omega⟩
    obtain rfl : f = 4 := by omega
    rw [fX12_sumOf_c4_s, if_pos (show (4 : Int32) ≤ nI 4 by decide)]
    exact ⟨x, rfl, hx⟩
  | succ d ih =>
    intro f n x hf hn hx ha0 ha1
    obtain ⟨n, rfl⟩ : ∃ z, n = z + 1 := ⟨n - 1, by omega⟩
    have hf4 : f < 4 := by omega
    obtain ⟨e, v1, v2⟩ := hv f hf4
    have fb := fl_b hI hf4
    have fin : ∀ t : Int32, t.toInt = mtI s a f → 0 ≤ t.toInt → t.toInt ≤ 999 → ∃ r, fX12_sumOf_c33 (fX12_sumOf_c4 n) a (nI f) t (σ 9 f) x σ = some (r, σ) ∧ r.toInt = sumI (fun k => v k * mtI s a k) 4 := fun t ht t0 t1 => by
      have b3 := mulAbs (a := v f) (b := t.toInt) (A := 200000) (B := 999) (by omega) (by omega) (by omega) (by omega)
      have m3 : (σ 9 f * t).toInt = v f * t.toInt := by
        rw [i32_mul (by rw [e]; omega) (by rw [e]; omega), e]
      have m4 : (x + σ 9 f * t).toInt = x.toInt + v f * t.toInt := by
        rw [i32_add (by rw [m3]; omega) (by rw [m3]; omega), m3]
      unfold fX12_sumOf_c33
      rw [xl_t, xl_t, nI_1]
      exact ih (f + 1) n _ (by omega) (by omega) (by rw [m4, hx, ht]; rfl) (by rw [m4]; omega) (by rw [m4]; omega)
    rw [fX12_sumOf_c4_s, if_neg (show ¬ (4 : Int32) ≤ nI f from nI_ge (a := f) (b := 4) (by omega) (by decide)), xr_n (by omega) (by decide)]
    rcases ha with ha | ha | ha
    · rw [if_pos ha]
      exact fin 1 (by unfold mtI; rw [if_pos ha]; rfl) (by decide) (by decide)
    · have na : ¬ a = -1 := by rw [ha]; decide
      have a1 : σ 1 (247 + f) = s (247 + f) := M_at2 h (by omega)
      rw [if_neg na]
      have e2 : xr σ 1 680 (a + nI f) (fun v2 => fX12_sumOf_c33 (fX12_sumOf_c4 n) a (nI f) v2 (σ 9 f) x σ) = fX12_sumOf_c33 (fX12_sumOf_c4 n) a (nI f) (s (247 + f)) (σ 9 f) x σ := by
        rw [ha, nI_add, xr_n (by omega) (by decide), a1]
      rw [e2]
      refine fin _ ?_ fb.1 (by show stI s f ≤ 999; omega)
      unfold mtI
      rw [if_neg na, ha]; rfl
    · have na : ¬ a = -1 := by rw [ha]; decide
      have a1 : σ 1 (251 + f) = s (251 + f) := M_at2 h (by omega)
      rw [if_neg na]
      have e2 : xr σ 1 680 (a + nI f) (fun v2 => fX12_sumOf_c33 (fX12_sumOf_c4 n) a (nI f) v2 (σ 9 f) x σ) = fX12_sumOf_c33 (fX12_sumOf_c4 n) a (nI f) (s (251 + f)) (σ 9 f) x σ := by
        rw [ha, nI_add, xr_n (by omega) (by decide), a1]
      rw [e2]
      refine fin _ ?_ fb.2.2.1 fb.2.2.2.1
      unfold mtI
      rw [if_neg na, ha]; rfl
theorem M_sumN {N : Nat} {σ : xSt} {H : List sS} {s : sS} {tx : (Nat → Int32) × Nat} (h : RM σ (H, s, tx)) (hI : Inv N s) {v : Nat → Int} (hv : ∀ f, f < 4 → (σ 9 f).toInt = v f ∧ -200000 ≤ v f ∧ v f ≤ 200000) : ∃ r, fX12_sumOf (-1) σ = some (r, σ) ∧ r.toInt = sumI v 4 := by
  obtain ⟨r, e1, e2⟩ := M_sumOf h hI (Or.inl rfl) hv 4 0 xFU 0 rfl (by decide) rfl (by decide) (by decide)
  refine ⟨r, e1, e2.trans (sumI_congr 4 (fun k _ => ?_))⟩
  unfold mtI
  rw [if_pos rfl, Int.mul_one]
theorem M_sumS {N : Nat} {σ : xSt} {H : List sS} {s : sS} {tx : (Nat → Int32) × Nat} (h : RM σ (H, s, tx)) (hI : Inv N s) {v : Nat → Int} (hv : ∀ f, f < 4 → (σ 9 f).toInt = v f ∧ -200000 ≤ v f ∧ v f ≤ 200000) : ∃ r, fX12_sumOf 247 σ = some (r, σ) ∧ r.toInt = sumI (fun k => v k * stI s k) 4 := by
  obtain ⟨r, e1, e2⟩ := M_sumOf h hI (a := nI 247) (Or.inr (Or.inl rfl)) hv 4 0 xFU 0 rfl (by decide) rfl (by decide) (by decide)
  refine ⟨r, e1, e2.trans (sumI_congr 4 (fun k _ => ?_))⟩
  unfold mtI
  rw [if_neg (show ¬ nI 247 = -1 by decide)]; rfl
theorem M_sumC {N : Nat} {σ : xSt} {H : List sS} {s : sS} {tx : (Nat → Int32) × Nat} (h : RM σ (H, s, tx)) (hI : Inv N s) {v : Nat → Int} (hv : ∀ f, f < 4 → (σ 9 f).toInt = v f ∧ -200000 ≤ v f ∧ v f ≤ 200000) : ∃ r, fX12_sumOf 251 σ = some (r, σ) ∧ r.toInt = sumI (fun k => v k * ctI s k) 4 := by
  obtain ⟨r, e1, e2⟩ := M_sumOf h hI (a := nI 251) (Or.inr (Or.inr rfl)) hv 4 0 xFU 0 rfl (by decide) rfl (by decide) (by decide)
  refine ⟨r, e1, e2.trans (sumI_congr 4 (fun k _ => ?_))⟩
  unfold mtI
  rw [if_neg (show ¬ nI 251 = -1 by decide)]; rfl
theorem M_bestCost {N : Nat} {σ : xSt} {H : List sS} {s : sS} {tx : (Nat → Int32) × Nat} (h : RM σ (H, s, tx)) (hI : Inv N s) {v : Nat → Int} (hv : ∀ f, f < 4 → (σ 10 f).toInt = v f ∧ -200000 ≤ v f ∧ v f ≤ 200000) : ∀ (d f n : Nat) (x : Int32), f + d = 4 → d < n → x.toInt = sumI (fun k => v k * ctI s k) f → -199800000 * (f : Int) ≤ x.toInt → x.toInt ≤ 199800000 * f → ∃ r, fX12_bestCost_c4 n x (nI f) σ = some (r, σ) ∧ r.toInt = sumI (fun k => v k * ctI s k) 4 := by
  intro d
  induction d with
  | zero =>
    intro f n x hf hn hx ha0 ha1
    obtain ⟨n, rfl⟩ : ∃ z, n = z + 1 := ⟨n - 1, by omega⟩
    obtain rfl : f = 4 := by omega
    rw [fX12_bestCost_c4_s, if_pos (show (4 : Int32) ≤ nI 4 by decide)]
    exact ⟨x, rfl, hx⟩
  | succ d ih =>
    intro f n x hf hn hx ha0 ha1
    obtain ⟨n, rfl⟩ : ∃ z, n = z + 1 := ⟨n - 1, by omega⟩
    have hf4 : f < 4 := by omega
    obtain ⟨e, v1, v2⟩ := hv f hf4
    have fb := fl_b hI hf4
    have a1 : σ 1 (251 + f) = s (251 + f) := M_at2 h (by omega)
    have b3 := mulAbs (a := v f) (b := ctI s f) (A := 200000) (B := 999) (by omega) (by omega) (by omega) (by omega)
    have m3 : (σ 10 f * s (251 + f)).toInt = v f * ctI s f := by
      rw [i32_mul (by rw [e]; show _ ≤ _ * ctI s f; omega) (by rw [e]; show _ * ctI s f < _; omega), e]; rfl
    have m4 : (x + σ 10 f * s (251 + f)).toInt = x.toInt + v f * ctI s f := by
      rw [i32_add (by rw [m3]; omega) (by rw [m3]; omega), m3]
    rw [fX12_bestCost_c4_s, if_neg (show ¬ (4 : Int32) ≤ nI f from nI_ge (a := f) (b := 4) (by omega) (by decide)), xr_n (by omega) (by decide), show (251 : Int32) = nI 251 from rfl, nI_add, xr_n (by omega) (by decide), a1, xl_t, xl_t, nI_1]
    exact ih (f + 1) n _ (by omega) (by omega) (by rw [m4, hx]; rfl) (by rw [m4]; omega) (by rw [m4]; omega)
def cbw (c : Cd) : Prop := 0 < c.2 ∧ c.2 ≤ 200 ∧ ∀ f, f < 4 → -200000 ≤ c.1 f ∧ c.1 f ≤ 200000
def mcand (σ : xSt) (c : Cd) : Prop := (σ 0 14).toInt = c.2 ∧ ∀ f, f < 4 → (σ 9 f).toInt = c.1 f
def mBst (σ : xSt) : Option Cd → Prop
  | none => σ 0 15 = 0
  | some b => cbw b ∧ (σ 0 15).toInt = b.2 ∧ ∀ f, f < 4 → (σ 10 f).toInt = b.1 f
def MB (s : sS) (lo hi : Int) (σ : xSt) (T : Cd → Prop) : Prop := ∃ b, mBst σ b ∧ Mn s lo hi T b
theorem MB.frame {s : sS} {lo hi : Int} {σ σ' : xSt} {T : Cd → Prop} (h : MB s lo hi σ T) (h1 : σ' 10 = σ 10) (h2 : σ' 0 15 = σ 0 15) : MB s lo hi σ' T := by
  obtain ⟨b, g1, g2⟩ := h
  refine ⟨b, ?_, g2⟩
  cases b with
  | none => show σ' 0 15 = 0; rw [h2]; exact g1
  | some b => show cbw b ∧ (σ' 0 15).toInt = b.2 ∧ ∀ f, f < 4 → (σ' 10 f).toInt = b.1 f; rw [h1, h2]; exact g1
theorem M_isMix {N : Nat} {σ : xSt} {H : List sS} {s : sS} {tx : (Nat → Int32) × Nat} (h : RM σ (H, s, tx)) (hI : Inv N s) {c : Cd} (hc : cbw c) (hx : mcand σ c) {p0 p1 : Int32} (h0 : bt p0 0 200) (h1 : bt p1 0 200) : ∀ (d f n : Nat), f + d = 4 → d < n → (∀ k, k < f → 0 ≤ c.1 k ∧ c.1 k ≤ cpI s k * c.2) → (feas s p0.toInt p1.toInt c → fX12_isMix_c2 n p0 p1 (nI f) σ = some (1, σ)) ∧ (¬ feas s p0.toInt p1.toInt c → fX12_isMix_c2 n p0 p1 (nI f) σ = some (0, σ)) := by
  obtain ⟨c0, c200, cbd⟩ := id hc
  obtain ⟨x14, x9⟩ := id hx
  unfold bt at h0 h1
  intro d
  induction d with
  | zero =>
    intro f n hf hn hk
    obtain ⟨n, rfl⟩ : ∃ z, n = z + 1 := ⟨n - 1, by omega⟩
    obtain rfl : f = 4 := by omega
    obtain ⟨r1, e1, e2⟩ := M_sumN h hI (v := c.1) (fun f hf => ⟨x9 f hf, cbd f hf⟩)
    obtain ⟨r3, e3, e4⟩ := M_sumS h hI (v := c.1) (fun f hf => ⟨x9 f hf, cbd f hf⟩)
    have m0 : (100 * σ 0 14).toInt = 100 * c.2 := by
      rw [i32_mul (by rw [x14]; show _ ≤ (100 : Int) * _; omega) (by rw [x14]; show (100 : Int) * _ < _; omega), x14]; rfl
    have mm : ∀ p : Int32, 0 ≤ p.toInt ∧ p.toInt ≤ 200 → (100 * p * σ 0 14).toInt = 100 * p.toInt * c.2 := fun p hp => by
      have e0 : (100 * p).toInt = 100 * p.toInt := by
        rw [i32_mul (by show _ ≤ (100 : Int) * _; omega) (by show (100 : Int) * _ < _; omega)]; rfl
      have b := mulNN (a := 100 * p.toInt) (b := c.2) (A := 20000) (B := 200) (by omega) (by omega) (by omega) (by omega)
      rw [i32_mul (by rw [x14, e0]; omega) (by rw [x14, e0]; omega), x14, e0]
    rw [fX12_isMix_c2_s, if_pos (show (4 : Int32) ≤ nI 4 by decide), e1, xc2_t]
    by_cases c1 : sumI c.1 4 = 100 * c.2
    · rw [if_pos (show r1 = 100 * σ 0 14 from (fa_eq _ _).mpr (by rw [e2, m0]; exact c1)), e3, xc2_t, M_in, xc2_t, x_i10]
      have e : (100 * p0 * σ 0 14 ≤ r3 ∧ r3 ≤ 100 * p1 * σ 0 14) ↔ feas s p0.toInt p1.toInt c := by
        rw [fa_le, fa_le, mm p0 h0, mm p1 h1, e4]
        exact ⟨fun h9 => ⟨c0, hk, c1, h9.1, h9.2⟩, fun h9 => ⟨h9.2.2.2.1, h9.2.2.2.2⟩⟩
      exact ⟨fun h9 => by rw [if_pos (e.mpr h9)], fun h9 => by rw [if_neg (fun h8 => h9 (e.mp h8))]⟩
    · rw [if_neg (show ¬ r1 = 100 * σ 0 14 from fun h9 => by rw [fa_eq, e2, m0] at h9; exact c1 h9)]
      exact ⟨fun h9 => absurd h9.2.2.1 c1, fun _ => rfl⟩
  | succ d ih =>
    intro f n hf hn hk
    obtain ⟨n, rfl⟩ : ∃ z, n = z + 1 := ⟨n - 1, by omega⟩
    have hf4 : f < 4 := by omega
    have e9 := x9 f hf4
    have fb := fl_b hI hf4
    have a1 : σ 1 (255 + f) = s (255 + f) := M_at2 h (by omega)
    have b1 := mulNN (a := cpI s f) (b := c.2) (A := 100) (B := 200) (by omega) (by omega) (by omega) (by omega)
    have m2 : (s (255 + f) * σ 0 14).toInt = cpI s f * c.2 := by
      rw [i32_mul (by rw [x14]; show _ ≤ cpI s f * _; omega) (by rw [x14]; show cpI s f * _ < _; omega), x14]; rfl
    have e : (0 ≤ σ 9 f ∧ σ 9 f ≤ s (255 + f) * σ 0 14) ↔ (0 ≤ c.1 f ∧ c.1 f ≤ cpI s f * c.2) := by
      rw [fa_le, fa_le, m2, e9]; exact Iff.rfl
    rw [fX12_isMix_c2_s, if_neg (show ¬ (4 : Int32) ≤ nI f from nI_ge (a := f) (b := 4) (by omega) (by decide)), xr_n (by omega) (by decide), show (255 : Int32) = nI 255 from rfl, nI_add, xr_n (by omega) (by decide), a1, M_in, xc2_t, x_i10]
    by_cases c1 : 0 ≤ c.1 f ∧ c.1 f ≤ cpI s f * c.2
    · rw [if_pos (e.mpr c1), xl_t, nI_1]
      refine ih (f + 1) n (by omega) (by omega) (fun k hk2 => ?_)
      by_cases e : k = f
      · rw [e]; exact c1
      · exact hk k (by omega)
    · rw [if_neg (fun h9 => c1 (e.mp h9))]
      exact ⟨fun h9 => absurd (h9.2.1 f hf4) c1, fun _ => rfl⟩
theorem l64 {a b c d : Int32} (h1 : -1000000000000000 ≤ a.toInt * b.toInt ∧ a.toInt * b.toInt ≤ 1000000000000000) (h2 : -1000000000000000 ≤ c.toInt * d.toInt ∧ c.toInt * d.toInt ≤ 1000000000000000) : (a.toInt64 * b.toInt64 - c.toInt64 * d.toInt64).toInt = a.toInt * b.toInt - c.toInt * d.toInt := by
  rw [Int64.toInt_sub, i64m, i64m]
  exact Int.bmod_eq_of_le (by omega) (by omega)
theorem M_betterLoop {s : sS} {σ : xSt} {c b : Cd} (hc : cbw c) (hb : cbw b) (hx : mcand σ c) (h15 : (σ 0 15).toInt = b.2) (h10 : ∀ f, f < 4 → (σ 10 f).toInt = b.1 f) : ∀ (d k n : Nat) (r : Int64), k + d = 4 → d < n → (∀ j, j < k → keyC s c j * b.2 = keyC s b j * c.2) → r.toInt = keyC s c k * b.2 - keyC s b k * c.2 → (ltC s c b → fX12_isBetter_c38 n r (nI k) σ = some (1, σ)) ∧ (¬ ltC s c b → fX12_isBetter_c38 n r (nI k) σ = some (0, σ)) := by
  have hz : (0 : Int64).toInt = 0 := by decide
  have fin : ∀ (k : Nat) (r : Int64), k < 5 → (r.toInt ≠ 0 ∨ k = 4) → (∀ j, j < k → keyC s c j * b.2 = keyC s b j * c.2) → r.toInt = keyC s c k * b.2 - keyC s b k * c.2 → (ltC s c b → fX12_isBetter_c83 r σ = some (1, σ)) ∧ (¬ ltC s c b → fX12_isBetter_c83 r σ = some (0, σ)) := by
    intro k r hk hr he h0
    have e : ltC s c b ↔ r.toInt < 0 := by
      constructor
      · intro ⟨k', g1, g2, g3⟩
        rcases Nat.lt_trichotomy k' k with h | h | h
        · have := he k' h; omega
        · rw [h] at g3; omega
        · rcases hr with hr | hr
          · have := g2 k h; omega
          · omega
      · intro h9
        exact ⟨k, hk, he, by omega⟩
    unfold fX12_isBetter_c83
    constructor
    · intro h9
      rw [if_neg (fun h8 => by
        have h7 := e.mp h9
        have h6 := Int64.le_iff_toInt_le.mp ((lg_cmp_ge _ _).mp h8)
        rw [hz] at h6
        omega)]
    · intro h9
      rw [if_pos ((lg_cmp_ge _ _).mpr (Int64.le_iff_toInt_le.mpr (by
        have h7 : ¬ r.toInt < 0 := fun h8 => h9 (e.mpr h8)
        rw [hz]
        omega)))]
  intro d
  induction d with
  | zero =>
    intro k n r hk hn he h0
    obtain ⟨n, rfl⟩ : ∃ z, n = z + 1 := ⟨n - 1, by omega⟩
    obtain rfl : k = 4 := by omega
    rw [fX12_isBetter_c38_s, if_pos (show (4 : Int32) ≤ nI 4 by decide)]
    exact fin 4 r (by decide) (Or.inr rfl) he h0
  | succ d ih =>
    intro k n r hk hn he h0
    obtain ⟨n, rfl⟩ : ∃ z, n = z + 1 := ⟨n - 1, by omega⟩
    rw [fX12_isBetter_c38_s, if_neg (show ¬ (4 : Int32) ≤ nI k from nI_ge (a := k) (b := 4) (by omega) (by decide))]
    by_cases c0 : r.toInt = 0
    · have hk4 : k < 4 := by omega
      have c1 := hc.2.2 k hk4
      have b1 := hb.2.2 k hk4
      have cc := hc.1
      have cc2 := hc.2.1
      have bb := hb.1
      have bb2 := hb.2.1
      have q1 := mulAbs (a := c.1 k) (b := b.2) (A := 200000) (B := 200) (by omega) (by omega) (by omega) (by omega)
      have q2 := mulAbs (a := b.1 k) (b := c.2) (A := 200000) (B := 200) (by omega) (by omega) (by omega) (by omega)
      rw [if_pos ((lg_cmp_eq _ _).mpr (Int64.toInt_inj.mp (by rw [hz]; exact c0))), xr_n (by omega) (by decide), xr_n (by omega) (by decide), xl_t, xl_t, nI_1]
      refine ih (k + 1) n _ (by omega) (by omega) (fun j hj => ?_) ?_
      · by_cases e : j = k
        · rw [e]; omega
        · exact he j (by omega)
      · rw [l64 (by rw [hx.2 k hk4, h15]; omega) (by rw [h10 k hk4, hx.1]; omega), hx.2 k hk4, h15, h10 k hk4, hx.1]
        rfl
    · rw [if_neg (fun h9 => c0 (by rw [(lg_cmp_eq _ _).mp h9]; exact hz))]
      exact fin k r (by omega) (Or.inl c0) he h0
theorem sumI_abs {f : Nat → Int} {B : Int} : ∀ n : Nat, (∀ k, k < n → -B ≤ f k ∧ f k ≤ B) → -(n * B) ≤ sumI f n ∧ sumI f n ≤ n * B
  | 0, _ => by
    show -(((0 : Nat) : Int) * B) ≤ 0 ∧ (0 : Int) ≤ ((0 : Nat) : Int) * B
    omega
  | n + 1, h => by
    have h1 := sumI_abs n (fun k hk => h k (by omega))
    have h2 := h n (by omega)
    show -(((n + 1 : Nat) : Int) * B) ≤ sumI f n + f n ∧ sumI f n + f n ≤ ((n + 1 : Nat) : Int) * B
    have e : ((n + 1 : Nat) : Int) * B = (n : Int) * B + B := by
      rw [show ((n + 1 : Nat) : Int) = (n : Int) + 1 by omega, Int.add_mul, Int.one_mul]
    omega
theorem key0_b {N : Nat} {s : sS} (hI : Inv N s) {c : Cd} (hc : cbw c) : -800000000 ≤ keyC s c 0 ∧ keyC s c 0 ≤ 800000000 := by
  have h := sumI_abs (f := fun f => c.1 f * ctI s f) (B := 199800000) 4 (fun k hk => by
    have a := hc.2.2 k hk
    have b := fl_b hI hk
    have := mulAbs (a := c.1 k) (b := ctI s k) (A := 200000) (B := 999) (by omega) (by omega) (by omega) (by omega)
    omega)
  show -800000000 ≤ sumI (fun f => c.1 f * ctI s f) 4 ∧ sumI (fun f => c.1 f * ctI s f) 4 ≤ 800000000
  omega
theorem M_isBetter {N : Nat} {σ : xSt} {H : List sS} {s : sS} {tx : (Nat → Int32) × Nat} (h : RM σ (H, s, tx)) (hI : Inv N s) {c b : Cd} (hc : cbw c) (hb : cbw b) (hx : mcand σ c) (h15 : (σ 0 15).toInt = b.2) (h10 : ∀ f, f < 4 → (σ 10 f).toInt = b.1 f) : (ltC s c b → fX12_isBetter σ = some (1, σ)) ∧ (¬ ltC s c b → fX12_isBetter σ = some (0, σ)) := by
  have bb := hb.1
  have bb2 := hb.2.1
  have cc := hc.1
  have cc2 := hc.2.1
  obtain ⟨r1, e1, k1⟩ := M_sumC h hI (v := c.1) (fun f hf => ⟨hx.2 f hf, hc.2.2 f hf⟩)
  obtain ⟨r2, e2, k2⟩ := M_bestCost h hI (v := b.1) (fun f hf => ⟨h10 f hf, hb.2.2 f hf⟩) 4 0 xFU 0 rfl (by decide) rfl (by decide) (by decide)
  have k1 : r1.toInt = keyC s c 0 := k1
  have k2 : r2.toInt = keyC s b 0 := k2
  have y1 := key0_b hI hc
  have y2 := key0_b hI hb
  have q1 := mulAbs (a := keyC s c 0) (b := b.2) (A := 800000000) (B := 200) (by omega) (by omega) (by omega) (by omega)
  have q2 := mulAbs (a := keyC s b 0) (b := c.2) (A := 800000000) (B := 200) (by omega) (by omega) (by omega) (by omega)
  unfold fX12_isBetter fX12_bestCost
  rw [if_neg (show ¬ σ 0 15 = 0 from fun h9 => by rw [fa_eq, h15] at h9; have h9 : b.2 = (0 : Int) := h9; omega), e1, xc2_t, show fX12_bestCost_c4 xFU 0 0 σ = some (r2, σ) from e2, xc2_t, xl_t]
  refine M_betterLoop hc hb hx h15 h10 4 0 xFU _ rfl (by decide) (fun j hj => absurd hj (Nat.not_lt_zero j)) ?_
  rw [l64 (by rw [k1, h15]; omega) (by rw [k2, hx.1]; omega), k1, h15, k2, hx.1]
theorem M_copy {H : List sS} {s : sS} {tx : (Nat → Int32) × Nat} : ∀ (d f n : Nat) (σ : xSt), f + d = 4 → d < n → RM σ (H, s, tx) → (∀ k, k < f → σ 10 k = σ 9 k) → ∃ σ', fX12_looksAt_c18 n (nI f) σ = some σ' ∧ RM σ' (H, s, tx) ∧ fR σ σ' ∧ σ' 0 15 = σ 0 14 ∧ ∀ k, k < 4 → σ' 10 k = σ 9 k := by
  intro d
  induction d with
  | zero =>
    intro f n σ hf hn h hk
    obtain ⟨n, rfl⟩ : ∃ z, n = z + 1 := ⟨n - 1, by omega⟩
    obtain rfl : f = 4 := by omega
    have f1 : fR σ (xu σ 0 15 (σ 0 14)) := (fR.refl σ).xu 0 15 _ (by decide)
    rw [fX12_looksAt_c18_s, if_pos (show (4 : Int32) ≤ nI 4 by decide), xp_t]
    exact ⟨_, rfl, h.scr2 f1, f1, by rw [xu_at, upd_at], fun k hk4 => by rw [xu_ne _ _ _ (by decide)]; exact hk k hk4⟩
  | succ d ih =>
    intro f n σ hf hn h hk
    obtain ⟨n, rfl⟩ : ∃ z, n = z + 1 := ⟨n - 1, by omega⟩
    have f1 : fR σ (xu σ 10 f (σ 9 f)) := (fR.refl σ).xu 10 f _ (by omega)
    obtain ⟨σ', e1, e2, e3, e4, e5⟩ := ih (f + 1) n (xu σ 10 f (σ 9 f)) (by omega) (by omega) (h.scr2 f1) (fun k hk2 => by
      rw [xu_at, xu_ne _ _ _ (by decide)]
      by_cases e : k = f
      · rw [e, upd_at]
      · rw [upd_ne _ _ e]; exact hk k (by omega))
    rw [fX12_looksAt_c18_s, if_neg (show ¬ (4 : Int32) ≤ nI f from nI_ge (a := f) (b := 4) (by omega) (by decide)), xr_n (by omega) (by decide), xs_n (by omega) (by decide), xl_t, nI_1]
    refine ⟨σ', e1, e2, f1.trans e3, e4.trans (by rw [xu_ne _ _ _ (by decide)]), fun k hk4 => (e5 k hk4).trans (by rw [xu_ne _ _ _ (by decide)])⟩
theorem M_looksAt {N : Nat} {σ : xSt} {H : List sS} {s : sS} {tx : (Nat → Int32) × Nat} (h : RM σ (H, s, tx)) (hI : Inv N s) {c : Cd} (hc : cbw c) (hx : mcand σ c) {p0 p1 : Int32} (h0 : bt p0 0 200) (h1 : bt p1 0 200) {T : Cd → Prop} (hB : MB s p0.toInt p1.toInt σ T) : ∃ σ', fX12_looksAt p0 p1 σ = some σ' ∧ RM σ' (H, s, tx) ∧ fR σ σ' ∧ MB s p0.toInt p1.toInt σ' (fun x => T x ∨ x = c) := by
  obtain ⟨b, hb, hM⟩ := hB
  have mix := M_isMix h hI hc hx h0 h1 4 0 xFU rfl (by decide) (fun k hk => absurd hk (Nat.not_lt_zero k))
  unfold fX12_looksAt fX12_isMix
  by_cases hf : feas s p0.toInt p1.toInt c
  · rw [show fX12_isMix_c2 xFU p0 p1 0 σ = some (1, σ) from mix.1 hf, xc2_t, if_neg (show ¬ (1 : Int32) = 0 by decide)]
    have new : Mn s p0.toInt p1.toInt (fun x => T x ∨ x = c) (some c) → ∃ σ', fX12_looksAt_c18 xFU 0 σ = some σ' ∧ RM σ' (H, s, tx) ∧ fR σ σ' ∧ MB s p0.toInt p1.toInt σ' (fun x => T x ∨ x = c) := fun hN => by
      obtain ⟨σ', e1, e2, e3, e4, e5⟩ := M_copy 4 0 xFU σ rfl (by decide) h (fun k hk => absurd hk (Nat.not_lt_zero k))
      exact ⟨σ', e1, e2, e3, some c, ⟨hc, by rw [e4]; exact hx.1, fun f hf4 => by rw [e5 f hf4]; exact hx.2 f hf4⟩, hN⟩
    cases b with
    | none =>
      have hb : σ 0 15 = 0 := hb
      have e : fX12_isBetter σ = some (1, σ) := by
        unfold fX12_isBetter
        rw [if_pos hb]
      rw [e, xc2_t, if_neg (show ¬ (1 : Int32) = 0 by decide)]
      exact new (Mn_first hf hM)
    | some b =>
      obtain ⟨cbb, h4, h33⟩ := hb
      have bet := M_isBetter h hI hc cbb hx h4 h33
      by_cases l : ltC s c b
      · rw [bet.1 l, xc2_t, if_neg (show ¬ (1 : Int32) = 0 by decide)]
        exact new (Mn_new hf l hM)
      · rw [bet.2 l, xc2_t, if_pos rfl]
        exact ⟨σ, rfl, h, fR.refl σ, some b, ⟨cbb, h4, h33⟩, Mn_keep l hM⟩
  · rw [show fX12_isMix_c2 xFU p0 p1 0 σ = some (0, σ) from mix.2 hf, xc2_t, if_pos rfl]
    exact ⟨σ, rfl, h, fR.refl σ, b, hb, Mn_skip hf b hM⟩
theorem oneC_cbw {N : Nat} {s : sS} (h : Inv N s) (S : Nat → Bool) (i : Nat) : cbw (oneC s S i) := by
  have hs := eS_sums h S 4 (Nat.le_refl 4)
  refine ⟨show (0 : Int) < 1 by decide, show (1 : Int) ≤ 200 by decide, fun f hf => ?_⟩
  show -200000 ≤ (if f = i then 100 - sumI (eS s S) 4 else eS s S f) ∧ (if f = i then 100 - sumI (eS s S) 4 else eS s S f) ≤ 200000
  have := eS_b h S f
  split <;> omega
theorem twoC_cbw {N : Nat} {s : sS} (h : Inv N s) (S : Nat → Bool) {i j : Nat} {w : Int} (hi : i < 4) (hj : j < 4) (hl : stI s j < stI s i) (hw : 0 ≤ w) (hw2 : w ≤ 200) : cbw (twoC s S i j w) := by
  have hs := eS_sums h S 4 (Nat.le_refl 4)
  have bi := fl_b h hi
  have bj := fl_b h hj
  have p1 := mulAbs (a := 100 - sumI (eS s S) 4) (b := stI s i) (A := 300) (B := 200) (by omega) (by omega) (by omega) (by omega)
  have p2 := mulAbs (a := 100 - sumI (eS s S) 4) (b := stI s j) (A := 300) (B := 200) (by omega) (by omega) (by omega) (by omega)
  refine ⟨by show 0 < stI s i - stI s j; omega, by show stI s i - stI s j ≤ 200; omega, fun f hf => ?_⟩
  show -200000 ≤ (if f = j then (100 - sumI (eS s S) 4) * stI s i - (100 * w - sumI (fun g => eS s S g * stI s g) 4) else if f = i then (100 * w - sumI (fun g => eS s S g * stI s g) 4) - (100 - sumI (eS s S) 4) * stI s j else eS s S f * (stI s i - stI s j)) ∧ (if f = j then (100 - sumI (eS s S) 4) * stI s i - (100 * w - sumI (fun g => eS s S g * stI s g) 4) else if f = i then (100 * w - sumI (fun g => eS s S g * stI s g) 4) - (100 - sumI (eS s S) 4) * stI s j else eS s S f * (stI s i - stI s j)) ≤ 200000
  have := eS_b h S f
  have p3 := mulAbs (a := eS s S f) (b := stI s i - stI s j) (A := 100) (B := 200) (by omega) (by omega) (by omega) (by omega)
  split
  · omega
  · split <;> omega
theorem zerC_cbw {N : Nat} {s : sS} (h : Inv N s) (S : Nat → Bool) : cbw (zerC s S) := ⟨show (0 : Int) < 1 by decide, show (1 : Int) ≤ 200 by decide, fun f _ => by
  have := eS_b h S f
  show -200000 ≤ eS s S f ∧ eS s S f ≤ 200000
  omega⟩
/-- two free flours at a bound: the strong one and the weak one -/
theorem M_ties {N : Nat} {σ : xSt} {H : List sS} {s : sS} {tx : (Nat → Int32) × Nat} (h : RM σ (H, s, tx)) (hI : Inv N s) {k a b : Nat} (hk : k < 81) (ha : a < 4) (hb : b < 4) (hab : a ≠ b) {p0 p1 pw : Int32} (h0 : bt p0 0 200) (h1 : bt p1 0 200) (hw : bt pw 0 200) {T : Cd → Prop} (hB : MB s p0.toInt p1.toInt σ T) : ∃ σ', fX12_ties (nI k) (nI a) (nI b) pw p0 p1 σ = some σ' ∧ RM σ' (H, s, tx) ∧ fR σ σ' ∧ MB s p0.toInt p1.toInt σ' (fun x => T x ∨ (stI s b < stI s a ∧ x = twoC s (mS k) a b pw.toInt) ∨ (stI s a < stI s b ∧ x = twoC s (mS k) b a pw.toInt)) := by
  have ba := fl_b hI ha
  have bb := fl_b hI hb
  have hw' := hw
  unfold bt at hw'
  have a1 : σ 1 (247 + a) = s (247 + a) := M_at2 h (by omega)
  have a2 : σ 1 (247 + b) = s (247 + b) := M_at2 h (by omega)
  have hg : (s (247 + a) - s (247 + b)).toInt = stI s a - stI s b := i32_sub (by show _ ≤ stI s a - stI s b; omega) (by show stI s a - stI s b < _; omega)
  unfold fX12_ties
  rw [show (247 : Int32) = nI 247 from rfl, nI_add, xr_n (by omega) (by decide), a1, nI_add, xr_n (by omega) (by decide), a2, xl_t]
  by_cases e0 : stI s a = stI s b
  · rw [if_pos (show s (247 + a) - s (247 + b) = 0 from (fa_eq _ _).mpr (by rw [hg]; show _ = (0 : Int); omega))]
    refine ⟨σ, rfl, h, fR.refl σ, ?_⟩
    obtain ⟨b9, g1, g2⟩ := hB
    refine ⟨b9, g1, Mn_iff (fun c => ⟨Or.inl, fun h9 => ?_⟩) b9 g2⟩
    rcases h9 with h9 | h9 | h9
    · exact h9
    · have := h9.1; omega
    · have := h9.1; omega
  · rw [if_neg (show ¬ s (247 + a) - s (247 + b) = 0 from fun h9 => by rw [fa_eq, hg] at h9; have h9 : stI s a - stI s b = (0 : Int) := h9; omega)]
    obtain ⟨σ1, f1, f2, f3, f4, f5, f6, f7⟩ := M_fixesE h hI hk (by_ := 1) ⟨by decide, by decide⟩
    have hs := eS_sums hI (mS k) 4 (Nat.le_refl 4)
    have v1 : ∀ f, f < 4 → (σ1 9 f).toInt = eS s (mS k) f ∧ -200000 ≤ eS s (mS k) f ∧ eS s (mS k) f ≤ 200000 := fun f hf => by
      have := eS_b hI (mS k) f
      refine ⟨?_, by omega, by omega⟩
      rw [f7 f hf]; exact Int.mul_one _
    obtain ⟨r6, g1, g2⟩ := M_sumN f2 hI v1
    obtain ⟨r9, g3, g4⟩ := M_sumS f2 hI v1
    have b2 : σ1 1 (247 + b) = s (247 + b) := M_at2 f2 (by omega)
    rw [f1, xc_t, g1, xc2_t, xl_t, show fX12_sumOf (nI 247) σ1 = some (r9, σ1) from g3, xc2_t, xr_n (by omega) (by decide), b2, xl_t]
    have t8 : (100 - r6).toInt = 100 - sumI (eS s (mS k)) 4 := by
      rw [i32_sub (by rw [g2]; show _ ≤ (100 : Int) - _; omega) (by rw [g2]; show (100 : Int) - _ < _; omega), g2]; rfl
    generalize hrest : (100 - r6) = rest at t8 ⊢
    have pz1 := mulAbs (a := stI s b) (b := rest.toInt) (A := 200) (B := 300) (by omega) (by omega) (by omega) (by omega)
    have t1 : (100 * pw).toInt = 100 * pw.toInt := by
      rw [i32_mul (by show _ ≤ (100 : Int) * _; omega) (by show (100 : Int) * _ < _; omega)]; rfl
    have t2 : (100 * pw - r9).toInt = 100 * pw.toInt - sumI (fun g => eS s (mS k) g * stI s g) 4 := by
      rw [i32_sub (by rw [t1, g4]; omega) (by rw [t1, g4]; omega), t1, g4]
    have t3 : (s (247 + b) * rest).toInt = stI s b * rest.toInt := i32_mul (by show _ ≤ stI s b * _; omega) (by show stI s b * _ < _; omega)
    have t4 : (100 * pw - r9 - s (247 + b) * rest).toInt = 100 * pw.toInt - sumI (fun g => eS s (mS k) g * stI s g) 4 - stI s b * rest.toInt := by
      rw [i32_sub (by rw [t2, t3]; omega) (by rw [t2, t3]; omega), t2, t3]
    generalize hits : 100 * pw - r9 - s (247 + b) * rest = its at t4 ⊢
    generalize hgap : s (247 + a) - s (247 + b) = gap at hg ⊢
    -- behind the sign
    have fin : ∀ (sg : Int32) (c : Cd), cbw c → (gap * sg).toInt = c.2 → (∀ f, f < 4 → f ≠ a → f ≠ b → c.1 f = eS s (mS k) f * c.2) → (its * sg).toInt = c.1 a → rest.toInt * c.2 - c.1 a = c.1 b → ∃ σ', fX12_ties_c84 (nI k) (nI a) (nI b) p0 p1 gap rest its sg σ1 = some σ' ∧ RM σ' (H, s, tx) ∧ fR σ σ' ∧ MB s p0.toInt p1.toInt σ' (fun x => T x ∨ x = c) := fun sg c hc q1 q2 q3 q4 => by
      obtain ⟨σ2, k1, k2, k3, k4, k5, k6, k7⟩ := M_fixesE f2 hI hk (by_ := gap * sg) ⟨by rw [q1]; have := hc.1; omega, by rw [q1]; exact hc.2.1⟩
      have ca := hc.2.2 a ha
      have cb2 := hc.2.2 b hb
      have c2 := hc.1
      have c3 := hc.2.1
      have p3 := mulAbs (a := rest.toInt) (b := c.2) (A := 300) (B := 200) (by omega) (by omega) (by omega) (by omega)
      have u1 : (rest * gap * sg).toInt = (rest * (gap * sg)).toInt := by rw [Int32.mul_assoc]
      have u2 : (rest * (gap * sg)).toInt = rest.toInt * c.2 := by
        rw [i32_mul (by rw [q1]; omega) (by rw [q1]; omega), q1]
      have u3 : (rest * (gap * sg) - its * sg).toInt = c.1 b := by
        rw [i32_sub (by rw [u2, q3]; omega) (by rw [u2, q3]; omega), u2, q3, q4]
      have w1 : fR σ2 (xu (xu σ2 9 a (its * sg)) 9 b (rest * (gap * sg) - its * sg)) := ((fR.refl σ2).xu 9 a _ (by omega)).xu 9 b _ (by omega)
      obtain ⟨σ3, m1, m2, m3, m4⟩ := M_looksAt (k2.scr2 w1) hI hc (c := c) ⟨by rw [xu_ne _ _ _ (by decide), xu_ne _ _ _ (by decide), k5]; exact q1, fun f hf => by
        rw [xu_at, xu_at]
        by_cases e : f = b
        · rw [e, upd_at]; exact u3
        · rw [upd_ne _ _ e]
          by_cases e2 : f = a
          · rw [e2, upd_at]; exact q3
          · rw [upd_ne _ _ e2, k7 f hf, q1]; exact (q2 f hf e2 e).symm⟩ h0 h1 (hB.frame (σ' := xu (xu σ2 9 a (its * sg)) 9 b (rest * (gap * sg) - its * sg)) (by rw [xu_ne _ _ _ (by decide), xu_ne _ _ _ (by decide), k4, f4]) (by rw [xu_ne _ _ _ (by decide), xu_ne _ _ _ (by decide), k6, f6]))
      refine ⟨σ3, ?_, m2, ((f3.trans k3).trans w1).trans m3, m4⟩
      unfold fX12_ties_c84
      rw [k1, xc_t, xs_n (by omega) (by decide), xr_n (by omega) (by decide), xu_at, upd_at, xu_ne _ _ _ (by decide), k5, xs_n (by omega) (by decide), m1, xc_t]
    have add : ∀ c : Cd, (∃ σ', fX12_ties_c84 (nI k) (nI a) (nI b) p0 p1 gap rest its (if stI s b < stI s a then 1 else -1) σ1 = some σ' ∧ RM σ' (H, s, tx) ∧ fR σ σ' ∧ MB s p0.toInt p1.toInt σ' (fun x => T x ∨ x = c)) → (∀ x, x = c ↔ ((stI s b < stI s a ∧ x = twoC s (mS k) a b pw.toInt) ∨ (stI s a < stI s b ∧ x = twoC s (mS k) b a pw.toInt))) → ∃ σ', fX12_ties_c84 (nI k) (nI a) (nI b) p0 p1 gap rest its (if stI s b < stI s a then 1 else -1) σ1 = some σ' ∧ RM σ' (H, s, tx) ∧ fR σ σ' ∧ MB s p0.toInt p1.toInt σ' (fun x => T x ∨ (stI s b < stI s a ∧ x = twoC s (mS k) a b pw.toInt) ∨ (stI s a < stI s b ∧ x = twoC s (mS k) b a pw.toInt)) := fun c ⟨σ', z1, z2, z3, b9, z4, z5⟩ hcx => ⟨σ', z1, z2, z3, b9, z4, Mn_iff (fun x => by rw [hcx x]) b9 z5⟩
    have pa := mulAbs (a := rest.toInt) (b := stI s a) (A := 300) (B := 200) (by omega) (by omega) (by omega) (by omega)
    have pb := mulAbs (a := rest.toInt) (b := stI s b) (A := 300) (B := 200) (by omega) (by omega) (by omega) (by omega)
    have cm : stI s b * rest.toInt = rest.toInt * stI s b := Int.mul_comm _ _
    by_cases l : stI s b < stI s a
    · rw [if_neg (show ¬ gap ≤ 0 from fun h9 => by rw [fa_le, hg] at h9; have h9 : stI s a - stI s b ≤ (0 : Int) := h9; omega)]
      have add := add (twoC s (mS k) a b pw.toInt)
      rw [if_pos l] at add
      refine add (fin 1 _ (twoC_cbw hI (mS k) ha hb l hw'.1 hw'.2) ?_ (fun f hf e1 e2 => ?_) ?_ ?_) (fun x => ⟨fun h9 => Or.inl ⟨l, h9⟩, fun h9 => ?_⟩)
      · rw [Int32.mul_one, hg]; rfl
      · show (if f = b then _ else if f = a then _ else _) = _
        rw [if_neg e2, if_neg e1]; rfl
      · rw [Int32.mul_one, t4]
        show _ = (if a = b then _ else if a = a then _ else _)
        rw [if_neg hab, if_pos rfl, ← t8, cm]
      · show rest.toInt * (stI s a - stI s b) - (if a = b then _ else if a = a then _ else _) = (if b = b then _ else _)
        rw [if_neg hab, if_pos rfl, if_pos rfl, ← t8, Int.mul_sub]
        omega
      · rcases h9 with h9 | h9
        · exact h9.2
        · have := h9.1; omega
    · have l2 : stI s a < stI s b := by omega
      rw [if_pos (show gap ≤ 0 from (fa_le _ _).mpr (by rw [hg]; show _ ≤ (0 : Int); omega))]
      have add := add (twoC s (mS k) b a pw.toInt)
      rw [if_neg l] at add
      have neg : ∀ z : Int32, -1000000 ≤ z.toInt → z.toInt ≤ 1000000 → (z * -1).toInt = -z.toInt := fun z z1 z2 => by
        rw [i32_mul (by show _ ≤ z.toInt * (-1 : Int); omega) (by show z.toInt * (-1 : Int) < _; omega)]
        show z.toInt * (-1 : Int) = _
        omega
      refine add (fin (-1) _ (twoC_cbw hI (mS k) hb ha l2 hw'.1 hw'.2) ?_ (fun f hf e1 e2 => ?_) ?_ ?_) (fun x => ⟨fun h9 => Or.inr ⟨l2, h9⟩, fun h9 => ?_⟩)
      · rw [neg gap (by omega) (by omega), hg]
        show _ = stI s b - stI s a
        omega
      · show (if f = a then _ else if f = b then _ else _) = _
        rw [if_neg e1, if_neg e2]; rfl
      · rw [neg its (by omega) (by omega), t4]
        show _ = (if a = a then _ else _)
        rw [if_pos rfl, ← t8, cm]
        omega
      · show rest.toInt * (stI s b - stI s a) - (if a = a then _ else _) = (if b = a then _ else if b = b then _ else _)
        rw [if_pos rfl, if_neg (fun h9 => hab h9.symm), if_pos rfl, ← t8, Int.mul_sub]
        omega
      · rcases h9 with h9 | h9
        · have := h9.1; omega
        · exact h9.2
