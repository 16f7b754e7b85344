/-! ===== TEXT: type, fault, readParts ===== -/
def xscr (q : Nat) : Bool := decide ((21 ≤ q ∧ q ≤ 27) ∨ q = 29 ∨ q = 33 ∨ q = 34 ∨ q = 35 ∨ q = 38 ∨ (44 ≤ q ∧ q ≤ 48) ∨ q = 51)
/-- a state that differs in the class's scratch alone -/
def fX (σ σ' : xSt) : Prop := (∀ q, xscr q = false → σ' q = σ q) ∧ σ' 38 5 = σ 38 5
theorem fX.refl (σ : xSt) : fX σ σ := ⟨fun _ _ => rfl, rfl⟩
theorem fX.trans {a b c : xSt} (h : fX a b) (h2 : fX b c) : fX a c := ⟨fun q hq => (h2.1 q hq).trans (h.1 q hq), h2.2.trans h.2⟩
theorem fX.at' {σ σ' : xSt} (h : fX σ σ') (q : Nat) (hq : xscr q = false) : σ' q = σ q := h.1 q hq
theorem fX.xu {σ σ' : xSt} (h : fX σ σ') (q k : Nat) (v : Int32) (hq : xscr q = true) (hk : q = 38 → k ≠ 5) : fX σ (xu σ' q k v) := by
  refine ⟨fun q' hq' => (xu_ne _ _ _ (fun e => by rw [e, hq] at hq'; exact absurd hq' (by decide))).trans (h.1 q' hq'), ?_⟩
  by_cases e : q = 38
  · subst e; rw [xu_at, upd_ne _ _ (fun h9 => hk rfl h9.symm)]; exact h.2
  · rw [xu_ne _ _ _ (fun h9 => e h9.symm)]; exact h.2
theorem fX.one {σ σ' : xSt} (q0 : Nat) (hq0 : xscr q0 = true) (h38 : q0 ≠ 38) (h : ∀ q, q ≠ q0 → σ' q = σ q) : fX σ σ' := ⟨fun q hq => h q (fun e => by rw [e, hq0] at hq; exact absurd hq (by decide)), by rw [h 38 (fun e => h38 e.symm)]⟩
theorem RX.text {σ σ' : xSt} {H : List sS} {s : sS} {tx : (Nat → Int32) × Nat} (h : RX σ (H, s, tx)) (f : ∀ q, xscr q = false → q ≠ 49 → q ≠ 50 → σ' q = σ q) (f38 : σ' 38 5 = σ 38 5) {tx' : (Nat → Int32) × Nat} (ht : RXt σ' tx') : RX σ' (H, s, tx') := by
  obtain ⟨h1, h2, h3, h4, h5⟩ := h
  have g : ∀ q, xscr q = false ∧ q ≠ 49 ∧ q ≠ 50 → σ' q = σ q := fun q hq => f q hq.1 hq.2.1 hq.2.2
  have lv : ∀ x, lvS σ x → lvS σ' x := fun x hx => lvS.cong hx (g 5 (by decide)) (g 6 (by decide)) (g 7 (by decide)) (g 8 (by decide)) (g 9 (by decide)) (g 13 (by decide)) (g 14 (by decide)) (g 39 (by decide)) (g 40 (by decide)) (g 41 (by decide)) (g 42 (by decide)) (g 43 (by decide)) (g 15 (by decide)) (g 36 (by decide))
  refine ⟨pgS.cong h1 (fun q k hqk => ?_), lv s h2, ?_, ?_, ht⟩
  · by_cases e : q = 38
    · subst e
      have : k = 5 := by
        unfold xseg at hqk
        omega
      rw [this]; exact f38
    · refine congrFun (g q ?_) k
      have hq : q = 2 ∨ q = 3 ∨ q = 4 ∨ q = 10 ∨ q = 11 ∨ q = 12 ∨ q = 16 ∨ q = 17 ∨ q = 18 ∨ q = 19 ∨ q = 20 ∨ q = 28 ∨ q = 30 ∨ q = 31 ∨ q = 32 ∨ q = 37 := by
        unfold xseg at hqk
        omega
      rcases hq with e | e | e | e | e | e | e | e | e | e | e | e | e | e | e | e <;> subst e <;> decide
  · unfold RXh at h3 ⊢
    rw [g 0 (by decide), g 1 (by decide)]
    obtain ⟨a1, a2, o0, a3, a4, a5⟩ := h3
    exact ⟨a1, a2, o0, a3, a4, fun i x hi => ⟨(a5 i x hi).1, lv x (a5 i x hi).2⟩⟩
  · rw [g 39 (by decide), g 40 (by decide)]; exact h4
theorem RX.scr {σ σ' : xSt} {a : xA} (h : RX σ a) (f : fX σ σ') : RX σ' a := by
  obtain ⟨H, s, tx⟩ := a
  refine RX.text h (fun q hq _ _ => f.1 q hq) f.2 ?_
  have ht := h.2.2.2.2
  unfold RXt at ht ⊢
  rw [f.1 49 (by decide), f.1 50 (by decide)]
  exact ht
theorem RX.xT {σ : xSt} {H : List sS} {s : sS} {tx : (Nat → Int32) × Nat} (h : RX σ (H, s, tx)) : xT σ tx.1 tx.2 := h.2.2.2.2
theorem RM.mT {σ : xSt} {H : List sS} {s : sS} {tx : (Nat → Int32) × Nat} (h : RM σ (H, s, tx)) : mT σ tx.1 tx.2 := h.2.2
/-! fault -/
theorem X_fault {σ : xSt} {H : List sS} {s : sS} {tx : (Nat → Int32) × Nat} (h : RX σ (H, s, tx)) : XRi (fX11_fault σ) ((rd tx.1 tx.2).1, (H, s, tx)) := by
  obtain ⟨σ', e, f, -⟩ := X_read h.xT
  unfold fX11_fault
  rw [e, xc2_t]
  exact ⟨σ', rfl, h.scr (fX.one 51 (by decide) (by decide) f)⟩
/-! readParts -/
def rpN (s : sS) (r : Nat) (P : Nat → Int32) : Nat → sS
  | 0 => s
  | m + 1 => upd (rpN s r P m) (55 + (8 * r + m)) (P m)
theorem rpN_caps {s : sS} (hc : caps s) {r : Nat} (hr : r < 6) (P : Nat → Int32) : ∀ m, m ≤ 8 → caps (rpN s r P m)
  | 0, _ => hc
  | m + 1, hm => (rpN_caps hc hr P m (by omega)).upd (by omega) _
def sp_readParts (p0 : Int32) (a : xA) : xO × xA :=
  if 0 ≤ p0 ∧ p0 ≤ a.2.1 5 - 1 then (if (rd a.2.2.1 a.2.2.2).1 = -1 then (.inl (pu (rpN a.2.1 p0.toNatClampNeg (rd a.2.2.1 a.2.2.2).2 8) p0.toNatClampNeg 8), (kp a.1 a.2.1, rpN a.2.1 p0.toNatClampNeg (rd a.2.2.1 a.2.2.2).2 8, (a.2.2.1, 0))) else (.inr 1, (a.1, a.2.1, (a.2.2.1, 0)))) else (.inr 0, (a.1, a.2.1, (a.2.2.1, 0)))
theorem xcp_s (σ : xSt) {q0 q1 : Nat} (hq : q0 ≠ q1) (sp dp n : Nat) : xcp σ q0 q1 sp dp (n + 1) = xu (xcp σ q0 q1 sp dp n) q1 (dp + n) (σ q0 (sp + n)) := by
  funext q
  by_cases e : q = q1
  · subst e
    rw [xu_at, xcp_at, xcp_at]
    funext k
    unfold upd va_cpy
    by_cases e2 : k = dp + n
    · subst e2
      rw [if_pos rfl, if_pos (by omega)]
      congr 1; omega
    · rw [if_neg e2]
      by_cases e3 : dp ≤ k ∧ k < dp + n
      · rw [if_pos e3, if_pos (by omega)]
      · rw [if_neg e3, if_neg (by omega)]
  · rw [xu_ne _ _ _ e, xcp_ne _ e, xcp_ne _ e]
theorem xcp_0 (σ : xSt) (q0 q1 sp dp : Nat) : xcp σ q0 q1 sp dp 0 = σ := by
  funext q
  by_cases e : q = q1
  · subst e
    rw [xcp_at]
    funext k
    unfold va_cpy
    rw [if_neg (by omega)]
  · rw [xcp_ne _ e]
theorem X_readParts {N : Nat} {σ : xSt} {H : List sS} {s : sS} {tx : (Nat → Int32) × Nat} (h : RX σ (H, s, tx)) (hI : Inv N s) (p0 : Int32) : XR (fX11_readParts p0 σ) (sp_readParts p0 (H, s, tx)) := by
  have hc := hI.caps
  obtain ⟨hcR, hcD, hcS, hcN, hrec, hE5, hE6, hE7, hE9⟩ := id hc
  obtain ⟨σ1, e1, f1, g1⟩ := X_read h.xT
  unfold fX11_readParts sp_readParts
  rw [e1, xc2_t, xp_t]
  have h2 : RX (xu σ1 49 1 0) (H, s, (tx.1, 0)) := RX.text h (fun q hq h49 _ => (xu_ne _ _ _ h49).trans (f1 q (fun e => by rw [e] at hq; exact absurd hq (by decide)))) (by rw [xu_ne _ _ _ (by decide), f1 38 (by decide)]) ⟨Nat.zero_le _, (congrFun (xu_at σ1 49 1 0) 1).trans (upd_at _ _ _), fun k hk => absurd hk (Nat.not_lt_zero k)⟩
  rw [X_needRecipe h2]
  show XR (xct (if 0 ≤ p0 ∧ p0 ≤ s 5 - 1 then _ else _) _) (if 0 ≤ p0 ∧ p0 ≤ s 5 - 1 then (if (rd tx.1 tx.2).1 = -1 then _ else _) else _)
  by_cases g2 : 0 ≤ p0 ∧ p0 ≤ s 5 - 1
  · rw [if_pos g2, if_pos g2, xct_l]
    obtain ⟨r, hr, rfl⟩ := x_cnt hE5 (by omega) g2
    have hr : r < cR s := hr
    by_cases g3 : (rd tx.1 tx.2).1 = -1
    · rw [if_pos g3, if_pos g3, nI_clamp (show r < 2 ^ 31 by omega)]
      unfold fX11_readParts_c31
      rw [X_needArgument1, xct_l]
      obtain ⟨σ2, e2, h3, f3⟩ := X_remember h2
      rw [e2, xc_t, show (8 : Int32) = nI 8 from rfl, nI_mul, Nat.mul_comm r 8, show (0 : Int32) = nI 0 from rfl, xcpy_n (by decide) (by omega) (by decide) (by decide)]
      have a51 : ∀ k, k < 8 → σ2 51 k = (rd tx.1 tx.2).2 k := fun k hk => by
        rw [f3 51 (by decide) (by decide), xu_ne _ _ _ (by decide)]; exact g1 k hk
      have hh : ∀ m, m ≤ 8 → RX (xcp σ2 51 11 0 (8 * r) m) (kp H s, rpN s r (rd tx.1 tx.2).2 m, (tx.1, 0)) := by
        intro m
        induction m with
        | zero => intro _; rw [xcp_0]; exact h3
        | succ m ih =>
          intro hm
          rw [xcp_s _ (by decide), Nat.zero_add, a51 m (by omega)]
          exact X_set_parts (ih (by omega)) (rpN_caps hc (by omega) _ m (by omega)) (by omega) _
      have h4 := hh 8 (Nat.le_refl _)
      rw [show (7 : Int32) = lastOf 8 from rfl, X_partsUpTo h4 (by omega) (Nat.le_refl _), xc2_t]
      exact ⟨_, rfl, h4⟩
    · rw [if_neg g3, if_neg g3]
      unfold fX11_readParts_c31
      rw [X_needArgument0, xct_r]
      exact ⟨_, rfl, h2⟩
  · rw [if_neg g2, if_neg g2, xct_r]
    exact ⟨_, rfl, h2⟩
/-! type -/
def byS (p : Int64) (i : Nat) : Int32 := ((Int64.toInt32 ((Int64.toUInt64 p >>> ((Int32.toInt64 (8 * (7 - nI i))).toUInt64 &&& Int64.toUInt64 63)).toInt64)) &&& 255)
def shI (i : Nat) : Int32 := nI 56 - 8 * nI i
theorem shI_s : ∀ i, i < 8 → shI i + (-8) = shI (i + 1) := by decide
theorem shI_nn : ∀ i, i < 8 → ¬ shI i < 0 := by decide
theorem by_eq (p : Int64) {i : Nat} (hi : i < 8) : Int64.toInt32 ((p >>> (Int32.toInt64 (shI i) &&& 63)) &&& 255) = byS p i := by
  unfold byS
  have h1 : ∀ i, i < 8 → (Int32.toInt64 (shI i) &&& 63) = Int64.ofNat (56 - 8 * i) := by decide
  have h2 : ∀ i, i < 8 → ((Int32.toInt64 (8 * (7 - nI i))).toUInt64 &&& Int64.toUInt64 63) = UInt64.ofNat (56 - 8 * i) := by decide
  rw [h1 i hi, h2 i hi]
  apply Int32.toBitVec_inj.mp
  have : i = 0 ∨ i = 1 ∨ i = 2 ∨ i = 3 ∨ i = 4 ∨ i = 5 ∨ i = 6 ∨ i = 7 := by omega
  rcases this with h | h | h | h | h | h | h | h <;> subst h <;> (
    apply BitVec.eq_of_getLsbD_eq
    intro j hj
    have h3 : ∀ j, j < 32 → 8 ≤ j → (255#32).getLsbD j = false := by decide
    by_cases h8 : 8 ≤ j
    · simp [h3 j hj h8]
    · have h9 : j < 64 := by omega
      have e64 : ∀ j, j < 8 → (255#64).getLsbD j = true := by decide
      have e32 : ∀ j, j < 8 → (255#32).getLsbD j = true := by decide
      have h10 : decide (64 ≤ j) = false := decide_eq_false (by omega)
      have h12 : ∀ m, m ≤ 56 → m + j < 64 := fun m hm => by omega
      simp only [Int32.toBitVec_and, Int64.toBitVec_toInt32, BitVec.getLsbD_and, Int64.toBitVec_and, BitVec.getLsbD_signExtend, h9, if_true]
      simp
      simp only [← BitVec.getLsbD_eq_getElem, e64 j (by omega), e32 j (by omega), BitVec.getLsbD_sshiftRight, h10]
      simp [h12])
def okN (p : Int64) : Nat → Prop
  | 0 => True
  | i + 1 => okN p i ∧ (byS p i = 0 ∨ (32 ≤ byS p i ∧ byS p i ≤ 126))
def cnN (p : Int64) : Nat → Nat
  | 0 => 0
  | i + 1 => if byS p i = 0 then cnN p i else cnN p i + 1
def tpN (p : Int64) (tx : (Nat → Int32) × Nat) : Nat → (Nat → Int32) × Nat
  | 0 => tx
  | i + 1 => if byS p i = 0 then tpN p tx i else (upd (tpN p tx i).1 (tpN p tx i).2 (byS p i), (tpN p tx i).2 + 1)
theorem cnN_le (p : Int64) : ∀ i, cnN p i ≤ i
  | 0 => Nat.le_refl _
  | i + 1 => by
    have := cnN_le p i
    unfold cnN
    split <;> omega
theorem cnN_mono (p : Int64) (i : Nat) : ∀ d, cnN p i ≤ cnN p (i + d)
  | 0 => Nat.le_refl _
  | d + 1 => by
    have := cnN_mono p i d
    rw [show i + (d + 1) = i + d + 1 from rfl, cnN]
    split <;> omega
theorem tpN_len (p : Int64) (tx : (Nat → Int32) × Nat) : ∀ i, (tpN p tx i).2 = tx.2 + cnN p i
  | 0 => rfl
  | i + 1 => by
    have := tpN_len p tx i
    show (if _ then _ else _ : (Nat → Int32) × Nat).2 = tx.2 + (if _ then _ else _)
    split
    · exact this
    · show (tpN p tx i).2 + 1 = _
      rw [this]; rfl
theorem okN_mono (p : Int64) (i : Nat) : ∀ d, okN p (i + d) → okN p i
  | 0, h => h
  | d + 1, h => okN_mono p i d h.1
theorem X_byteOf (p : Int64) (i : Nat) (σ : xSt) : fX6_byteOf p (nI i) σ = some (byS p i, σ) := rfl
theorem X_countLoop {σ : xSt} (p : Int64) : ∀ (d i n : Nat), i + d = 8 → d < n → okN p i → (okN p 8 → fX6_countBytes_c5 n p (nI (cnN p i)) (nI i) σ = some (nI (cnN p 8), σ)) ∧ (¬ okN p 8 → fX6_countBytes_c5 n p (nI (cnN p i)) (nI i) σ = some (-1, σ)) := by
  intro d
  induction d with
  | zero =>
    intro i n hi hn hok
    obtain ⟨n, rfl⟩ : ∃ z, n = z + 1 := ⟨n - 1, by omega⟩
    obtain rfl : i = 8 := by omega
    refine ⟨fun _ => ?_, fun h => absurd hok h⟩
    rw [fX6_countBytes_c5_s, if_pos (show (8 : Int32) ≤ nI 8 by decide)]
  | succ d ih =>
    intro i n hi hn hok
    obtain ⟨n, rfl⟩ : ∃ z, n = z + 1 := ⟨n - 1, by omega⟩
    rw [fX6_countBytes_c5_s, if_neg (show ¬ (8 : Int32) ≤ nI i from nI_ge (a := i) (b := 8) (by omega) (by decide)), X_byteOf, xc2_t]
    by_cases g1 : byS p i = 0
    · rw [if_pos g1]
      unfold fX6_countBytes_c39
      rw [if_pos g1, xl_t, nI_1]
      have e : cnN p (i + 1) = cnN p i := if_pos g1
      have := ih (i + 1) n (by omega) (by omega) ⟨hok, Or.inl g1⟩
      rw [e] at this
      exact this
    · rw [if_neg g1, X_isWithin, xc2_t, x_i10]
      by_cases g2 : 32 ≤ byS p i ∧ byS p i ≤ 126
      · rw [if_pos g2]
        unfold fX6_countBytes_c39
        rw [if_neg g1, xl_t, xl_t, nI_1, nI_1]
        have e : cnN p (i + 1) = cnN p i + 1 := if_neg g1
        have := ih (i + 1) n (by omega) (by omega) ⟨hok, Or.inr g2⟩
        rw [e] at this
        exact this
      · rw [if_neg g2]
        refine ⟨fun h => ?_, fun _ => rfl⟩
        have h9 : okN p (i + 1) := okN_mono p (i + 1) d (by rw [show i + 1 + d = 8 by omega]; exact h)
        rcases h9.2 with h8 | h8
        · exact absurd h8 g1
        · exact absurd h8 g2
theorem X_appLoop {H : List sS} {s : sS} {tx : (Nat → Int32) × Nat} (p : Int64) (hL : tx.2 + cnN p 8 ≤ 80) : ∀ (d i n : Nat) (σ : xSt), i + d = 8 → d < n → RX σ (H, s, tpN p tx i) → ∃ σ', fX6_append_c2 n p (nI i) σ = some σ' ∧ RX σ' (H, s, tpN p tx 8) := by
  intro d
  induction d with
  | zero =>
    intro i n σ hi hn h
    obtain ⟨n, rfl⟩ : ∃ z, n = z + 1 := ⟨n - 1, by omega⟩
    obtain rfl : i = 8 := by omega
    rw [fX6_append_c2_s, if_pos (show (8 : Int32) ≤ nI 8 by decide)]
    exact ⟨σ, rfl, h⟩
  | succ d ih =>
    intro i n σ hi hn h
    obtain ⟨n, rfl⟩ : ∃ z, n = z + 1 := ⟨n - 1, by omega⟩
    rw [fX6_append_c2_s, if_neg (show ¬ (8 : Int32) ≤ nI i from nI_ge (a := i) (b := 8) (by omega) (by decide)), X_byteOf, xc2_t]
    by_cases g1 : byS p i = 0
    · rw [if_pos g1, xl_t, nI_1]
      have e : tpN p tx (i + 1) = tpN p tx i := if_pos g1
      rw [← e] at h
      exact ih (i + 1) n σ (by omega) (by omega) h
    · have e : tpN p tx (i + 1) = (upd (tpN p tx i).1 (tpN p tx i).2 (byS p i), (tpN p tx i).2 + 1) := if_neg g1
      have el := tpN_len p tx i
      have e9 : cnN p (i + 1) = cnN p i + 1 := if_neg g1
      have hm := cnN_mono p (i + 1) d
      rw [show i + 1 + d = 8 by omega] at hm
      obtain ⟨x1, x2, x3⟩ := h.xT
      rw [if_neg g1, x2, if_neg (show ¬ (80 : Int32) ≤ nI (tpN p tx i).2 from nI_ge (a := (tpN p tx i).2) (b := 80) (by omega) (by decide)), xs_n (by omega) (by decide), xp_t, xl_t, nI_1]
      have h2 : RX (xu (xu σ 50 (tpN p tx i).2 (byS p i)) 49 1 ((xu σ 50 (tpN p tx i).2 (byS p i)) 49 1 + 1)) (H, s, tpN p tx (i + 1)) := by
        refine RX.text h (fun q hq h49 h50 => ?_) ?_ ?_
        · rw [xu_ne _ _ _ h49, xu_ne _ _ _ h50]
        · rw [xu_ne _ _ _ (by decide), xu_ne _ _ _ (by decide)]
        · rw [e]
          refine ⟨by show _ + 1 ≤ 80; omega, ?_, fun k hk => ?_⟩
          · rw [xu_at, upd_at, xu_ne _ _ _ (by decide), x2, nI_1]
          · rw [xu_ne _ _ _ (by decide), xu_at]
            show upd _ _ _ k = upd _ _ _ k
            by_cases e8 : k = (tpN p tx i).2
            · rw [e8, upd_at, upd_at]
            · rw [upd_ne _ _ e8, upd_ne _ _ e8]
              have hk : k < (tpN p tx i).2 + 1 := hk
              exact x3 k (by omega)
      exact ih (i + 1) n _ (by omega) (by omega) h2
theorem X_type {σ : xSt} {H : List sS} {s : sS} {tx : (Nat → Int32) × Nat} (h : RX σ (H, s, tx)) (p : Int64) :
    (¬ okN p 8 → XR (fX11_type p σ) (.inr 1, (H, s, tx))) ∧ (okN p 8 → (80 < tx.2 + cnN p 8 → XR (fX11_type p σ) (.inr 2, (H, s, tx))) ∧ (tx.2 + cnN p 8 ≤ 80 → XR (fX11_type p σ) (.inl (nI (tpN p tx 8).2), (H, s, tpN p tx 8)))) := by
  have hcnt := X_countLoop (σ := σ) p 8 0 xFU rfl (by decide) trivial
  have hb := cnN_le p 8
  obtain ⟨x1, x2, x3⟩ := h.xT
  unfold fX11_type fX6_countBytes
  refine ⟨fun g => ?_, fun g => ?_⟩
  · rw [show fX6_countBytes_c5 xFU p 0 0 σ = _ from hcnt.2 g, xc2_t, if_pos rfl]
    unfold fX11_type_c19
    rw [X_needArgument0, xct_r]
    exact ⟨σ, rfl, h⟩
  · rw [show fX6_countBytes_c5 xFU p 0 0 σ = _ from hcnt.1 g, xc2_t, if_neg (show ¬ nI (cnN p 8) = -1 from fun h9 => absurd (congrArg Int32.toInt h9) (by rw [nI_toInt (by omega), show (-1 : Int32).toInt = -1 by decide]; omega))]
    unfold fX11_type_c19
    rw [X_needArgument1, xct_l, x2, nI_add]
    refine ⟨fun g2 => ?_, fun g2 => ?_⟩
    · rw [if_pos (show (80 : Int32) < nI (tx.2 + cnN p 8) from nI_lt (a := 80) (by omega) (by omega))]
      unfold fX11_type_c41
      rw [X_needState0, xct_r]
      exact ⟨σ, rfl, h⟩
    · rw [if_neg (show ¬ (80 : Int32) < nI (tx.2 + cnN p 8) from nI_nlt (a := 80) (by omega) (by decide))]
      unfold fX11_type_c41 fX6_append
      obtain ⟨σ', e, h2⟩ := X_appLoop p g2 8 0 xFU σ rfl (by decide) h
      rw [X_needState1, xct_l, show fX6_append_c2 xFU p 0 σ = _ from e, xc_t, h2.xT.2.1]
      exact ⟨σ', rfl, h2⟩