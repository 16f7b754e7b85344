/-! ===== TEXT: the reading of parts ===== -/
def xT (σ : xSt) (T : Nat → Int32) (L : Nat) : Prop := L ≤ 80 ∧ σ 49 1 = nI L ∧ ∀ k, k < L → σ 50 k = T k
def mT (σ : xSt) (T : Nat → Int32) (L : Nat) : Prop := L ≤ 80 ∧ σ 0 6 = nI L ∧ ∀ k, k < L → σ 3 k = T k
def blS (T : Nat → Int32) (L : Nat) : Nat → Nat → Nat
  | 0, p => p
  | d + 1, p => if p < L ∧ T p = 32 then blS T L d (p + 1) else p
def dgS (T : Nat → Int32) (L : Nat) : Nat → Nat → Nat
  | 0, p => p
  | d + 1, p => if p < L ∧ 48 ≤ T p ∧ T p ≤ 57 then dgS T L d (p + 1) else p
def vlS (T : Nat → Int32) : Nat → Nat → Int32 → Int32
  | 0, _, v => v
  | k + 1, p, v => vlS T k (p + 1) (10 * v + T p - 48)
theorem blS_b (T : Nat → Int32) (L : Nat) : ∀ d p, p ≤ L → p ≤ blS T L d p ∧ blS T L d p ≤ L
  | 0, p, h => ⟨Nat.le_refl _, h⟩
  | d + 1, p, h => by
    show p ≤ (if _ then _ else _) ∧ (if _ then _ else _) ≤ L
    by_cases g : p < L ∧ T p = 32
    · rw [if_pos g]
      have := blS_b T L d (p + 1) (by omega)
      omega
    · rw [if_neg g]; omega
theorem dgS_b (T : Nat → Int32) (L : Nat) : ∀ d p, p ≤ L → p ≤ dgS T L d p ∧ dgS T L d p ≤ L
  | 0, p, h => ⟨Nat.le_refl _, h⟩
  | d + 1, p, h => by
    show p ≤ (if _ then _ else _) ∧ (if _ then _ else _) ≤ L
    by_cases g : p < L ∧ 48 ≤ T p ∧ T p ≤ 57
    · rw [if_pos g]
      have := dgS_b T L d (p + 1) (by omega)
      omega
    · rw [if_neg g]; omega
theorem dgS_dig (T : Nat → Int32) (L : Nat) : ∀ d p k, p ≤ k → k < dgS T L d p → 48 ≤ T k ∧ T k ≤ 57
  | 0, p, k, h1, h2 => by have h2 : k < p := h2; omega
  | d + 1, p, k, h1, h2 => by
    by_cases g : p < L ∧ 48 ≤ T p ∧ T p ≤ 57
    · have e : dgS T L (d + 1) p = dgS T L d (p + 1) := if_pos g
      rw [e] at h2
      by_cases hk : k = p
      · subst hk; exact g.2
      · exact dgS_dig T L d (p + 1) k (by omega) h2
    · have e : dgS T L (d + 1) p = p := if_neg g
      rw [e] at h2; omega
theorem x_i10 {α : Type} {c : Prop} [Decidable c] (A B : α) : (if (if c then (1 : Int32) else 0) = 0 then A else B) = if c then B else A := by
  by_cases h : c
  · rw [if_pos h, if_pos h, if_neg (by decide)]
  · rw [if_neg h, if_neg h, if_pos rfl]
theorem X_hasAt {σ : xSt} {T : Nat → Int32} {L : Nat} (h : xT σ T L) {p : Nat} (hp : p ≤ 81) (c : Int32) : fX6_hasAt (nI p) c σ = some (if p < L ∧ T p = c then 1 else 0, σ) := by
  obtain ⟨hL, h1, h2⟩ := h
  unfold fX6_hasAt
  rw [h1]
  by_cases g : p < L
  · rw [if_neg (nI_ge (by omega) (by omega)), xr_n (by omega) (by decide), h2 p g]
    by_cases g2 : T p = c
    · rw [if_pos g2, if_pos ⟨g, g2⟩]
    · rw [if_neg g2, if_neg (fun h9 => g2 h9.2)]
  · rw [if_pos (nI_le (by omega) (by omega)), if_neg (fun h9 => g h9.1)]
theorem X_blanksLoop {σ : xSt} {T : Nat → Int32} {L : Nat} (h : xT σ T L) : ∀ d p n, L - p ≤ d → L - p < n → p ≤ L → fX6_skipBlanks_c2 n (nI p) σ = some (nI (blS T L d p), σ) := by
  have hL := h.1
  have h1 := h.2.1
  intro d
  induction d with
  | zero =>
    intro p n hd hn hp
    obtain ⟨n, rfl⟩ : ∃ z, n = z + 1 := ⟨n - 1, by omega⟩
    rw [fX6_skipBlanks_c2_s, h1, if_pos (nI_le (by omega) (by omega))]
    rfl
  | succ d ih =>
    intro p n hd hn hp
    obtain ⟨n, rfl⟩ : ∃ z, n = z + 1 := ⟨n - 1, by omega⟩
    have e : blS T L (d + 1) p = if p < L ∧ T p = 32 then blS T L d (p + 1) else p := rfl
    rw [fX6_skipBlanks_c2_s, h1, e]
    by_cases g : p < L
    · rw [if_neg (nI_ge (by omega) (by omega)), X_hasAt h (by omega), xc2_t]
      by_cases g2 : p < L ∧ T p = 32
      · rw [if_pos g2, if_pos g2, if_neg (by decide), xl_t, nI_1]
        exact ih (p + 1) n (by omega) (by omega) (by omega)
      · rw [if_neg g2, if_neg g2, if_pos rfl]
    · rw [if_pos (nI_le (by omega) (by omega)), if_neg (fun h9 => g h9.1)]
theorem X_blanks {σ : xSt} {T : Nat → Int32} {L : Nat} (h : xT σ T L) {p : Nat} (hp : p ≤ L) : fX6_skipBlanks (nI p) σ = some (nI (blS T L 80 p), σ) := X_blanksLoop h 80 p xFU (by have := h.1; omega) (by have := h.1; show L - p < 8192; omega) hp
theorem X_digitsLoop {σ : xSt} {T : Nat → Int32} {L : Nat} (h : xT σ T L) : ∀ d p n, L - p ≤ d → L - p < n → p ≤ L → fX6_endOfNumber_c2 n (nI p) σ = some (nI (dgS T L d p), σ) := by
  obtain ⟨hL, h1, h2⟩ := h
  intro d
  induction d with
  | zero =>
    intro p n hd hn hp
    obtain ⟨n, rfl⟩ : ∃ z, n = z + 1 := ⟨n - 1, by omega⟩
    rw [fX6_endOfNumber_c2_s, h1, if_pos (nI_le (by omega) (by omega))]
    rfl
  | succ d ih =>
    intro p n hd hn hp
    obtain ⟨n, rfl⟩ : ∃ z, n = z + 1 := ⟨n - 1, by omega⟩
    have e : dgS T L (d + 1) p = if p < L ∧ 48 ≤ T p ∧ T p ≤ 57 then dgS T L d (p + 1) else p := rfl
    rw [fX6_endOfNumber_c2_s, h1, e]
    by_cases g : p < L
    · rw [if_neg (nI_ge (by omega) (by omega)), xr_n (by omega) (by decide), h2 p g, X_isWithin, xc2_t]
      by_cases g2 : 48 ≤ T p ∧ T p ≤ 57
      · rw [if_pos g2, if_neg (show ¬ ((1 : Int32) = 0) by decide), if_pos (show p < L ∧ 48 ≤ T p ∧ T p ≤ 57 from ⟨g, g2⟩), xl_t, nI_1]
        exact ih (p + 1) n (by omega) (by omega) (by omega)
      · rw [if_neg g2, if_pos (show (0 : Int32) = 0 from rfl), if_neg (show ¬ (p < L ∧ 48 ≤ T p ∧ T p ≤ 57) from fun h9 => g2 h9.2)]
    · rw [if_pos (nI_le (by omega) (by omega)), if_neg (fun h9 => g h9.1)]
theorem X_digits {σ : xSt} {T : Nat → Int32} {L : Nat} (h : xT σ T L) {p : Nat} (hp : p ≤ L) : fX6_endOfNumber (nI p) σ = some (nI (dgS T L 80 p), σ) := X_digitsLoop h 80 p xFU (by have := h.1; omega) (by have := h.1; show L - p < 8192; omega) hp
theorem X_valueLoop {σ : xSt} {T : Nat → Int32} {L : Nat} (h : xT σ T L) (a e : Nat) (he : e ≤ L) (ha : a ≤ L) : ∀ (d p n : Nat) (v : Int32), a ≤ p → p + d = (if a + 4 ≤ e then a + 4 else e) → d < n → fX6_valueOf_c5 n (nI a) (nI e) v (nI p) σ = some (vlS T d p v, σ) := by
  obtain ⟨hL, h1, h2⟩ := h
  intro d
  induction d with
  | zero =>
    intro p n v hp hd hn
    obtain ⟨n, rfl⟩ : ∃ z, n = z + 1 := ⟨n - 1, by omega⟩
    rw [fX6_valueOf_c5_s]
    by_cases g : a + 4 ≤ e
    · rw [if_pos g] at hd
      by_cases g2 : e ≤ p
      · rw [if_pos (nI_le g2 (by omega))]; rfl
      · rw [if_neg (nI_ge (by omega) (by omega)), show (4 : Int32) = nI 4 from rfl, nI_add, if_pos (nI_le (by omega) (by omega))]; rfl
    · rw [if_neg g] at hd
      rw [if_pos (nI_le (by omega) (by omega))]; rfl
  | succ d ih =>
    intro p n v hp hd hn
    obtain ⟨n, rfl⟩ : ∃ z, n = z + 1 := ⟨n - 1, by omega⟩
    have hlt : p < e ∧ p < a + 4 := by
      split at hd <;> omega
    rw [fX6_valueOf_c5_s, if_neg (nI_ge (by omega) (by omega)), show (4 : Int32) = nI 4 from rfl, nI_add, if_neg (nI_ge (by omega) (by omega)), xr_n (by omega) (by decide), h2 p (by omega), xl_t, xl_t, nI_1]
    exact ih (p + 1) n _ (by omega) (by omega) (by omega)
theorem X_value {σ : xSt} {T : Nat → Int32} {L : Nat} (h : xT σ T L) {a e : Nat} (he : e ≤ L) (ha : a ≤ e) : fX6_valueOf (nI a) (nI e) σ = some (vlS T (if a + 4 ≤ e then 4 else e - a) a 0, σ) := by
  have := h.1
  exact X_valueLoop h a e he (by omega) _ a xFU 0 (Nat.le_refl _) (by split <;> omega) (by show _ < 8192; split <;> omega)
theorem X_isNumber {a e : Nat} (ha : a ≤ e) (he : e ≤ 81) (σ : xSt) : fX6_isNumber (nI a) (nI e) σ = some (if 1 ≤ e - a ∧ e - a ≤ 4 then 1 else 0, σ) := by
  unfold fX6_isNumber
  have e1 : nI e - nI a = nI (e - a) := by rw [Int32.sub_eq_add_neg, nI_addneg ha]
  rw [e1, X_isWithin, xc2_t, xb_t x10b]
  have e2 : ((1 : Int32) ≤ nI (e - a) ∧ nI (e - a) ≤ 4) ↔ (1 ≤ e - a ∧ e - a ≤ 4) := by
    rw [fa_le, fa_le, nI_toInt (by omega)]
    show (1 : Int) ≤ _ ∧ _ ≤ (4 : Int) ↔ _
    omega
  simp only [e2]
theorem X_faultOf {a e : Nat} (ha : a ≤ e) (he : e ≤ 81) (σ : xSt) : fX6_faultOfNumber (nI a) (nI e) σ = some (if e = a then nI a else nI (a + 4), σ) := by
  unfold fX6_faultOfNumber
  by_cases g : e = a
  · rw [if_pos (nI_le (by omega) (by omega)), if_pos g]
  · rw [if_neg (nI_ge (by omega) (by omega)), if_neg g, show (4 : Int32) = nI 4 from rfl, nI_add]
theorem x_before {b : Nat} (hb : b ≤ 8) (v : Int32) : nI b - 1 < v ↔ nI b ≤ v := by
  have e : (nI b - 1).toInt = (b : Int) - 1 := by
    rw [i32_sub]
    · rw [nI_toInt (by omega)]; rfl
    · rw [nI_toInt (by omega)]; show (_ : Int) ≤ (b : Int) - 1; omega
    · rw [nI_toInt (by omega)]; show (b : Int) - 1 < _; omega
  rw [fa_lt, fa_le, e, nI_toInt (by omega)]
  omega
theorem x_le7 {v : Int32} (h : ¬ 8 ≤ v) : v ≤ 7 := by
  rw [fa_le] at h ⊢
  have h : ¬ (8 : Int) ≤ v.toInt := h
  show v.toInt ≤ 7
  omega
/-- the reading: the fault, -1 for none, and the parts -/
def rdS (T : Nat → Int32) (L : Nat) : Nat → Nat → Nat → (Nat → Int32) → Int32 × (Nat → Int32)
  | 0, _, _, P => (0, P)
  | f + 1, place, b, P =>
    let g0 := blS T L 80 place
    let g1 := dgS T L 80 g0
    if g1 = g0 then (nI g0, P) else if 5 ≤ g1 - g0 then (nI (g0 + 4), P) else
    let good := vlS T (g1 - g0) g0 0
    if ¬ (nI b ≤ good ∧ good ≤ 7) then (nI g0, P) else
    let co := blS T L 80 g1
    if ¬ (co < L ∧ T co = 58) then (nI co, P) else
    let p0 := blS T L 80 (co + 1)
    let p1 := dgS T L 80 p0
    if p1 = p0 then (nI p0, P) else if 5 ≤ p1 - p0 then (nI (p0 + 4), P) else
    let P' := upd P good.toNatClampNeg (vlS T (p1 - p0) p0 0)
    let c := blS T L 80 p1
    if L ≤ c then (-1, P') else if T c = 44 then rdS T L f (c + 1) (good.toNatClampNeg + 1) P' else (nI c, P')
theorem X_readLoop {T : Nat → Int32} {L : Nat} : ∀ (f i place b n : Nat) (P : Nat → Int32) (σ : xSt), f + i = 9 → i ≤ b → b ≤ 8 → place ≤ L → f ≤ n → xT σ T L → (∀ k, k < 8 → σ 51 k = P k) → ∃ σ', fX6_read_c14 n (nI place) (nI b - 1) (nI i) σ = some ((rdS T L f place b P).1, σ') ∧ (∀ q, q ≠ 51 → σ' q = σ q) ∧ ∀ k, k < 8 → σ' 51 k = (rdS T L f place b P).2 k := by
  intro f
  induction f with
  | zero => intro i place b n P σ h1 h2 h3; omega
  | succ f ih =>
    intro i place b n P σ hfi hib hb hpl hn h hP
    have hL := h.1
    obtain ⟨n, rfl⟩ : ∃ z, n = z + 1 := ⟨n - 1, by omega⟩
    have b0 := blS_b T L 80 place hpl
    have b1 := dgS_b T L 80 _ b0.2
    have b2 := blS_b T L 80 _ b1.2
    rw [fX6_read_c14_s, if_neg (show ¬ (8 : Int32) < nI i from nI_nlt (a := 8) (b := i) (by omega) (by omega)), X_blanks h hpl, xc2_t, X_digits h b0.2, xc2_t, X_value h b1.2 b1.1, xc2_t, X_isNumber b1.1 (by omega), xc2_t]
    unfold rdS
    dsimp only
    generalize hg0 : blS T L 80 place = g0 at b0 b1 b2 ⊢
    generalize hg1 : dgS T L 80 g0 = g1 at b1 b2 ⊢
    generalize hco : blS T L 80 g1 = co at b2 ⊢
    by_cases c1 : g1 = g0
    · rw [if_neg (show ¬ (1 ≤ g1 - g0 ∧ g1 - g0 ≤ 4) by omega), if_pos rfl, X_faultOf b1.1 (by omega), xc2_t, if_pos c1, if_pos c1]
      exact ⟨σ, rfl, fun _ _ => rfl, hP⟩
    rw [if_neg c1]
    by_cases c2 : 5 ≤ g1 - g0
    · rw [if_neg (show ¬ (1 ≤ g1 - g0 ∧ g1 - g0 ≤ 4) by omega), if_pos rfl, X_faultOf b1.1 (by omega), xc2_t, if_neg c1, if_pos c2]
      exact ⟨σ, rfl, fun _ _ => rfl, hP⟩
    rw [if_neg c2, if_pos (show 1 ≤ g1 - g0 ∧ g1 - g0 ≤ 4 by omega), if_neg (by decide)]
    have ek : (if g0 + 4 ≤ g1 then 4 else g1 - g0) = g1 - g0 := by split <;> omega
    rw [ek]
    generalize hgo : vlS T (g1 - g0) g0 0 = good
    by_cases c3 : nI b ≤ good ∧ good ≤ 7
    · obtain ⟨g, hg1', hg2', rfl⟩ := x_rng (a := b) (b := 7) rfl (by decide) (by decide) (by omega) c3
      rw [if_neg (show ¬ (8 : Int32) ≤ nI g from nI_ge (a := g) (b := 8) (by omega) (by decide)), if_pos ((x_before hb _).mpr c3.1), X_blanks h b1.2, xc2_t, hco, X_hasAt h (by omega), xc2_t, if_neg (show ¬ ¬ (nI b ≤ nI g ∧ nI g ≤ 7) from fun h9 => h9 c3)]
      by_cases c4 : co < L ∧ T co = 58
      · rw [if_pos c4, if_neg (by decide), nI_1, X_blanks h (by omega), xc2_t, if_neg (show ¬ ¬ (co < L ∧ T co = 58) from fun h9 => h9 c4)]
        have b3 := blS_b T L 80 (co + 1) (by omega)
        have b4 := dgS_b T L 80 _ b3.2
        rw [X_digits h b3.2, xc2_t]
        have b5 := blS_b T L 80 _ b4.2
        generalize hp0 : blS T L 80 (co + 1) = p0 at b3 b4 b5 ⊢
        generalize hp1 : dgS T L 80 p0 = p1 at b4 b5 ⊢
        generalize hcc : blS T L 80 p1 = cc at b5 ⊢
        rw [X_isNumber b4.1 (by omega), xc2_t]
        by_cases c5 : p1 = p0
        · rw [if_neg (show ¬ (1 ≤ p1 - p0 ∧ p1 - p0 ≤ 4) by omega), if_pos rfl, X_faultOf b4.1 (by omega), xc2_t, if_pos c5, if_pos c5]
          exact ⟨σ, rfl, fun _ _ => rfl, hP⟩
        rw [if_neg c5]
        by_cases c6 : 5 ≤ p1 - p0
        · rw [if_neg (show ¬ (1 ≤ p1 - p0 ∧ p1 - p0 ≤ 4) by omega), if_pos rfl, X_faultOf b4.1 (by omega), xc2_t, if_neg c5, if_pos c6]
          exact ⟨σ, rfl, fun _ _ => rfl, hP⟩
        rw [if_neg c6, if_pos (show 1 ≤ p1 - p0 ∧ p1 - p0 ≤ 4 by omega), if_neg (by decide), X_value h b4.2 b4.1, xc2_t, show (if p0 + 4 ≤ p1 then 4 else p1 - p0) = p1 - p0 by split <;> omega, xs_n (by omega) (by decide), nI_clamp (by omega)]
        have h' : xT (xu σ 51 g (vlS T (p1 - p0) p0 0)) T L := ⟨h.1, (congrFun (xu_ne _ _ _ (by decide)) _).trans h.2.1, fun k hk => (congrFun (xu_ne _ _ _ (by decide)) _).trans (h.2.2 k hk)⟩
        have hP' : ∀ k, k < 8 → xu σ 51 g (vlS T (p1 - p0) p0 0) 51 k = upd P g (vlS T (p1 - p0) p0 0) k := fun k hk => by
          rw [xu_at]
          by_cases e : k = g
          · rw [e, upd_at, upd_at]
          · rw [upd_ne _ _ e, upd_ne _ _ e, hP k hk]
        rw [X_blanks h' b4.2, xc2_t, hcc, h'.2.1]
        by_cases c7 : L ≤ cc
        · rw [if_neg (nI_nlt (by omega) (by omega)), if_pos c7]
          exact ⟨_, rfl, fun q hq => xu_ne _ _ _ hq, hP'⟩
        rw [if_pos (nI_lt (by omega) (by omega)), if_neg c7, X_hasAt h' (by omega), xc2_t, x_i10]
        by_cases c8 : T cc = 44
        · rw [if_pos (show cc < L ∧ T cc = 44 from ⟨by omega, c8⟩), if_pos c8, xl_t, xl_t, nI_1, nI_1]
          obtain ⟨σ', e1, e2, e3⟩ := ih (i + 1) (cc + 1) (g + 1) n (upd P g (vlS T (p1 - p0) p0 0)) _ (by omega) (by omega) (by omega) (by omega) (by omega) h' hP'
          rw [nI_pred] at e1
          exact ⟨σ', e1, fun q hq => (e2 q hq).trans (xu_ne _ _ _ hq), e3⟩
        · rw [if_neg (show ¬ (cc < L ∧ T cc = 44) from fun h9 => c8 h9.2), if_neg c8]
          exact ⟨_, rfl, fun q hq => xu_ne _ _ _ hq, hP'⟩
      · rw [if_neg c4, if_pos rfl, if_pos c4]
        exact ⟨σ, rfl, fun _ _ => rfl, hP⟩
    · rw [if_pos c3]
      by_cases c4 : 8 ≤ good
      · rw [if_pos c4]; exact ⟨σ, rfl, fun _ _ => rfl, hP⟩
      · rw [if_neg c4, if_neg (fun h9 => c3 ⟨(x_before hb _).mp h9, x_le7 c4⟩)]
        exact ⟨σ, rfl, fun _ _ => rfl, hP⟩
theorem x_fill (q0 n0 : Nat) (hn0 : n0 < 8000) (v : Int32) : ∀ (d i n : Nat) (σ : xSt), i + d = n0 → d < n → ∃ σ', fJ7_fill_53178_c5 q0 n0 n v (nI i) (nI n0) σ = some σ' ∧ (∀ q, q ≠ q0 → σ' q = σ q) ∧ ∀ k, σ' q0 k = if i ≤ k ∧ k < n0 then v else σ q0 k := by
  intro d
  induction d with
  | zero =>
    intro i n σ hi hn
    obtain ⟨n, rfl⟩ : ∃ z, n = z + 1 := ⟨n - 1, by omega⟩
    rw [fJ7_fill_53178_c5_s, if_pos (nI_le (by omega) (by omega))]
    exact ⟨σ, rfl, fun _ _ => rfl, fun k => by rw [if_neg (by omega)]⟩
  | succ d ih =>
    intro i n σ hi hn
    obtain ⟨n, rfl⟩ : ∃ z, n = z + 1 := ⟨n - 1, by omega⟩
    obtain ⟨σ', e1, e2, e3⟩ := ih (i + 1) n (xu σ q0 i v) (by omega) (by omega)
    refine ⟨σ', ?_, fun q hq => (e2 q hq).trans (xu_ne _ _ _ hq), fun k => ?_⟩
    · rw [fJ7_fill_53178_c5_s, if_neg (nI_ge (by omega) (by omega)), xs_n (by omega) (by omega), xl_t, nI_1]
      exact e1
    · rw [e3, xu_at]
      by_cases h : k = i
      · subst h
        rw [if_neg (by omega), if_pos (by omega), upd_at]
      · rw [upd_ne _ _ h]
        by_cases h2 : i + 1 ≤ k ∧ k < n0
        · rw [if_pos h2, if_pos (by omega)]
        · rw [if_neg h2, if_neg (by omega)]
abbrev rd (T : Nat → Int32) (L : Nat) : Int32 × (Nat → Int32) := rdS T L 9 0 0 (fun _ => 0)
theorem X_read {σ : xSt} {T : Nat → Int32} {L : Nat} (h : xT σ T L) : ∃ σ', fX6_read σ = some ((rd T L).1, σ') ∧ (∀ q, q ≠ 51 → σ' q = σ q) ∧ ∀ k, k < 8 → σ' 51 k = (rd T L).2 k := by
  unfold fX6_read fJ7_fill_53178
  obtain ⟨σ1, e1, e2, e3⟩ := x_fill 51 8 (by decide) 0 8 0 xFU σ rfl (by decide)
  have h1 : xT σ1 T L := ⟨h.1, by rw [e2 49 (by decide)]; exact h.2.1, by rw [e2 50 (by decide)]; exact h.2.2⟩
  obtain ⟨σ2, f1, f2, f3⟩ := X_readLoop (T := T) (L := L) 9 0 0 0 xFU (fun _ => 0) σ1 rfl (Nat.le_refl _) (by decide) (Nat.zero_le _) (by decide) h1 (fun k hk => by rw [e3, if_pos ⟨Nat.zero_le _, hk⟩])
  refine ⟨σ2, ?_, fun q hq => (f2 q hq).trans (e2 q hq), f3⟩
  rw [xl_t, show Int32.ofNat 8 = nI 8 from rfl, show fJ7_fill_53178_c5 51 8 xFU 0 0 (nI 8) σ = some σ1 from e1, xc_t]
  exact f1
/-! the model's reading -/
theorem nI_subeq {a e : Nat} (ha : a ≤ e) : nI e - nI a = nI (e - a) := by rw [Int32.sub_eq_add_neg, nI_addneg ha]
/-- what is read is in its range -/
theorem vlS_b (T : Nat → Int32) : ∀ (d p : Nat) (v m : Nat), (∀ k, p ≤ k → k < p + d → 48 ≤ T k ∧ T k ≤ 57) → v < m → m * 10 ^ d ≤ 10000 → ∃ w, w < m * 10 ^ d ∧ vlS T d p (nI v) = nI w
  | 0, p, v, m, _, hv, _ => ⟨v, by omega, rfl⟩
  | d + 1, p, v, m, hd, hv, hm => by
    obtain ⟨k, hk1, hk2, hk3⟩ := x_rng (a := 48) (b := 57) rfl (by decide) (by decide) (by decide) (hd p (Nat.le_refl _) (by omega))
    have e : vlS T (d + 1) p (nI v) = vlS T d (p + 1) (10 * nI v + T p - 48) := rfl
    have e2 : 10 * nI v + T p - 48 = nI (10 * v + (k - 48)) := by
      rw [hk3, show (10 : Int32) = nI 10 from rfl, nI_mul, nI_add, show (48 : Int32) = nI 48 from rfl, nI_subeq (by omega)]
      congr 1; omega
    have hp : m * 10 ^ (d + 1) = m * 10 * 10 ^ d := by rw [Nat.pow_succ, Nat.mul_comm (10 ^ d) 10, Nat.mul_assoc]
    rw [e, e2, hp]
    exact vlS_b T d (p + 1) (10 * v + (k - 48)) (m * 10) (fun k hk1 hk2 => hd k (by omega) (by omega)) (by omega) (by omega)
theorem rdS_b (T : Nat → Int32) (L : Nat) : ∀ (f place b : Nat) (P : Nat → Int32), place ≤ L → (∀ k, bt (P k) 0 9999) → ∀ k, bt ((rdS T L f place b P).2 k) 0 9999
  | 0, _, _, _, _, hP, k => hP k
  | f + 1, place, b, P, hpl, hP, k => by
    have b0 := blS_b T L 80 place hpl
    have b1 := dgS_b T L 80 _ b0.2
    have b2 := blS_b T L 80 _ b1.2
    unfold rdS
    dsimp only
    split
    · exact hP k
    split
    · exact hP k
    split
    · exact hP k
    rename_i c3
    split
    · exact hP k
    rename_i c4
    have c4 := Decidable.not_not.mp c4
    have b3 := blS_b T L 80 _ (show blS T L 80 (dgS T L 80 (blS T L 80 place)) + 1 ≤ L by omega)
    have b4 := dgS_b T L 80 _ b3.2
    have b5 := blS_b T L 80 _ b4.2
    split
    · exact hP k
    split
    · exact hP k
    rename_i c5 c6
    have hd := dgS_dig T L 80 (blS T L 80 (blS T L 80 (dgS T L 80 (blS T L 80 place)) + 1))
    generalize blS T L 80 (blS T L 80 (dgS T L 80 (blS T L 80 place)) + 1) = p0 at *
    generalize dgS T L 80 p0 = p1 at *
    have hP' : ∀ g k, bt (upd P g (vlS T (p1 - p0) p0 0) k) 0 9999 := fun g k => by
      by_cases e : k = g
      · rw [e, upd_at]
        have h4 : p1 - p0 ≤ 4 := by omega
        have hpow : (1 : Nat) * 10 ^ (p1 - p0) ≤ 10000 := by
          have : p1 - p0 = 0 ∨ p1 - p0 = 1 ∨ p1 - p0 = 2 ∨ p1 - p0 = 3 ∨ p1 - p0 = 4 := by omega
          rcases this with h | h | h | h | h <;> rw [h] <;> decide
        obtain ⟨w, hw, ew⟩ := vlS_b T (p1 - p0) p0 0 1 (fun k h1 h2 => hd k h1 (by omega)) (by decide) hpow
        have ew : vlS T (p1 - p0) p0 0 = nI w := ew
        rw [ew]
        unfold bt
        rw [nI_toInt (by omega)]
        omega
      · rw [upd_ne _ _ e]; exact hP k
    split
    · exact hP' _ k
    split
    · exact rdS_b T L f _ _ _ (by omega) (hP' _) k
    · exact hP' _ k
theorem rd_b (T : Nat → Int32) (L : Nat) (k : Nat) : bt ((rd T L).2 k) 0 9999 := rdS_b T L 9 0 0 _ (Nat.zero_le _) (fun _ => by unfold bt; decide) k

