/-! ===== MIX, SELL ===== -/
theorem x_cntI {s : sS} {j c k : Nat} (e : s j = nI c) (hc : c < 1000) (hk : k < c) : 0 ≤ nI k ∧ nI k ≤ s j - 1 := by
  refine ⟨nI_pos' (by omega), ?_⟩
  have := nI_pred (c - 1)
  rw [show c - 1 + 1 = c by omega] at this
  rw [e, this]
  exact nI_le (by omega) (by omega)
theorem X_mix {N : Nat} {σ : xSt} {H : List sS} {s : sS} {tx : (Nat → Int32) × Nat} (h : RX σ (H, s, tx)) (hI : Inv N s) (hH : ∀ x ∈ H, cle x s) (p0 p1 : Int32) :
    (¬ (0 ≤ p0 ∧ p0 ≤ s 5 - 1) → XR (fX11_mix p0 p1 σ) (.inr 0, (H, s, tx))) ∧ ∀ r, r < cR s → p0 = nI r → (¬ (1 ≤ p1 ∧ p1 ≤ 40) → XR (fX11_mix p0 p1 σ) (.inr 1, (H, s, tx))) ∧ ((1 ≤ p1 ∧ p1 ≤ 40) → (¬ mixQ s r p1 → XR (fX11_mix p0 p1 σ) (.inr 2, (H, s, tx))) ∧ (mixQ s r p1 → XR (fX11_mix p0 p1 σ) (.inl (nI (cD s)), (kp H s, mixS s r p1, tx)))) := by
  have hc := hI.caps
  obtain ⟨hcR, hcD, hcS, hcN, hrec, hE5, hE6, hE7, hE9⟩ := id hc
  unfold fX11_mix
  rw [X_needRecipe h]
  refine ⟨fun g1 => ?_, fun r hr e => ?_⟩
  · show XR (xct (if 0 ≤ p0 ∧ p0 ≤ s 5 - 1 then _ else _) _) _
    rw [if_neg g1, xct_r]; exact ⟨σ, rfl, h⟩
  · subst e
    have g1 := x_cntI hE5 (by omega) hr
    have hd : (if 0 ≤ nI r ∧ nI r ≤ (H, s, tx).2.1 5 - 1 then some ((.inl 0 : xO), σ) else some (.inr 0, σ)) = some (.inl 0, σ) := if_pos g1
    rw [hd, xct_l, X_isWithin, xc2_t]
    refine ⟨fun g2 => ?_, fun g2 => ?_⟩
    · rw [if_neg g2, X_needArgument0, xct_r]; exact ⟨σ, rfl, h⟩
    · have a1 : σ 5 r = s (19 + r) := X_at_piece h hr
      have a2 : σ 12 7 = nI (cD s) := (X_at_ndough h).trans hE6
      have bad : XR (fX11_mix_c63 (nI r) p1 (p1 * s (19 + r)) σ) (.inr 2, (H, s, tx)) := ⟨σ, rfl, h⟩
      rw [if_pos g2, X_needArgument1, xct_l, xr_n (by omega) (by decide), a1, xl_t, a2, show (20 : Int32) = nI 20 from rfl]
      unfold mixQ
      by_cases q1 : cD s < 20
      · rw [if_neg (nI_ge q1 (by decide)), X_hasParts h (by omega), xc2_t]
        by_cases q2 : pu s r 8 ≤ 0
        · rw [if_pos q2, if_pos rfl]
          refine ⟨fun _ => bad, fun h9 => ?_⟩
          have := h9.2.1
          rw [fa_lt] at this
          rw [fa_le] at q2
          omega
        · have hp : 0 < pu s r 8 := by rw [fa_lt]; rw [fa_le] at q2; omega
          obtain ⟨n1, n0⟩ := X_enough h (show r < 6 by omega) hp (p1 * s (19 + r))
          rw [if_neg q2, if_neg (by decide)]
          by_cases q3 : enough s r (p1 * s (19 + r))
          · rw [n1 q3, xc2_t, if_neg (by decide)]
            refine ⟨fun h9 => absurd ⟨q1, hp, q3⟩ h9, fun _ => ?_⟩
            unfold fX11_mix_c64
            obtain ⟨σ1, e1, h1, -⟩ := X_remember h
            rw [X_needState1, xct_l, e1, xc_t]
            obtain ⟨σ2, e2, h2⟩ := X_mixLoop hc (kp_cle hH) hr q1 p1 hp 8 0 xFU σ1 rfl (by decide) h1
            exact ⟨σ2, e2, h2⟩
          · rw [n0 q3, xc2_t, if_pos rfl]
            exact ⟨fun _ => bad, fun h9 => absurd h9.2.2 q3⟩
      · rw [if_pos (nI_le (by omega) (by omega))]
        exact ⟨fun _ => bad, fun h9 => absurd h9.1 q1⟩
theorem iParts_pos {s : sS} (h : iRec s) {r : Nat} (hr : r < 6) : ∀ k, k ≤ 8 → 0 ≤ (pu s r k).toInt ∧ (pu s r k).toInt ≤ 9999 * k
  | 0, _ => show 0 ≤ (0 : Int32).toInt ∧ (0 : Int32).toInt ≤ 9999 * ((0 : Nat) : Int) from ⟨by decide, by decide⟩
  | k + 1, hk => by
    obtain ⟨h1, h2⟩ := iParts_pos h hr k (by omega)
    have h3 := h.2 (8 * r + k) (by omega)
    have e : pu s r (k + 1) = pu s r k + s (55 + (8 * r + k)) := rfl
    rw [e, Int32.toInt_add, Int.bmod_eq_of_le (by have := h3.1; omega) (by have := h3.2; omega)]
    have := h3.1
    have := h3.2
    omega
def slN (r : Nat) : Nat → sS × Int32 × Int32 → sS × Int32 × Int32
  | 0, x => x
  | d + 1, x => slN r d (upd x.1 (223 + (4 * r + d)) (x.1 (223 + (4 * r + d)) - (if x.2.2 ≤ x.1 (223 + (4 * r + d)) then x.2.2 else x.1 (223 + (4 * r + d)))), (if x.2.1 = -1 then (if (if x.2.2 ≤ x.1 (223 + (4 * r + d)) then x.2.2 else x.1 (223 + (4 * r + d))) ≤ 0 then x.2.1 else nI d) else x.2.1), x.2.2 - (if x.2.2 ≤ x.1 (223 + (4 * r + d)) then x.2.2 else x.1 (223 + (4 * r + d))))
theorem slN_caps (r : Nat) (hr : r < 6) : ∀ (d : Nat) (x : sS × Int32 × Int32), d ≤ 4 → caps x.1 → caps (slN r d x).1
  | 0, _, _, h => h
  | d + 1, x, hd, h => slN_caps r hr d _ (by omega) (h.upd (by omega) _)
theorem slN_out (r : Nat) : ∀ (d : Nat) (x : sS × Int32 × Int32) (j : Nat), (j < 223 + 4 * r ∨ 223 + (4 * r + d) ≤ j) → (slN r d x).1 j = x.1 j
  | 0, _, _, _ => rfl
  | d + 1, x, j, hj => by
    show (slN r d _).1 j = _
    rw [slN_out r d _ j (by omega)]
    exact upd_ne _ _ (by omega)
/-- nothing left: nothing more changes -/
theorem slN_idle (r : Nat) : ∀ (d : Nat) (x : sS × Int32 × Int32), x.2.2 = 0 → (∀ k, k < d → 0 ≤ x.1 (223 + (4 * r + k))) → slN r d x = x
  | 0, _, _, _ => rfl
  | d + 1, (s0, g0, l0), hz, hb => by
    have hz : l0 = 0 := hz
    subst hz
    have h0 : (0 : Int32) ≤ s0 (223 + (4 * r + d)) := hb d (by omega)
    show slN r d (upd s0 (223 + (4 * r + d)) (s0 (223 + (4 * r + d)) - (if (0 : Int32) ≤ s0 (223 + (4 * r + d)) then 0 else s0 (223 + (4 * r + d)))), (if g0 = -1 then (if (if (0 : Int32) ≤ s0 (223 + (4 * r + d)) then 0 else s0 (223 + (4 * r + d))) ≤ 0 then g0 else nI d) else g0), 0 - (if (0 : Int32) ≤ s0 (223 + (4 * r + d)) then 0 else s0 (223 + (4 * r + d)))) = _
    rw [if_pos h0, Int32.sub_zero, upd_same rfl, if_pos (show (0 : Int32) ≤ 0 by decide), ite_self, Int32.sub_zero]
    exact slN_idle r d _ rfl (fun k hk => hb k (by omega))
theorem X_sellLoop {H : List sS} {tx : (Nat → Int32) × Nat} {r : Nat} (hr : r < 6) : ∀ (d n : Nat) (σ : xSt) (x : sS × Int32 × Int32), d ≤ 4 → d < n → caps x.1 → 0 ≤ x.2.2 → (∀ k, k < d → 0 ≤ x.1 (223 + (4 * r + k))) → RX σ (H, x.1, tx) → ∃ σ', fX0_takeOldest_c8 n (nI r) x.2.1 x.2.2 (lastOf d) σ = some ((slN r d x).2.1, σ') ∧ RX σ' (H, (slN r d x).1, tx) := by
  intro d
  induction d with
  | zero =>
    intro n σ x hd hn hc hl hb h
    obtain ⟨n, rfl⟩ : ∃ z, n = z + 1 := ⟨n - 1, by omega⟩
    rw [fX0_takeOldest_c8_s, if_pos (by decide)]
    exact ⟨σ, rfl, h⟩
  | succ d ih =>
    intro n σ x hd hn hc hl hb h
    obtain ⟨n, rfl⟩ : ∃ z, n = z + 1 := ⟨n - 1, by omega⟩
    obtain ⟨s0, g0, l0⟩ := x
    have hl : (0 : Int32) ≤ l0 := hl
    have hc : caps s0 := hc
    have hb0 : (0 : Int32) ≤ s0 (223 + (4 * r + d)) := hb d (by omega)
    have a1 : σ 28 (4 * r + d) = s0 (223 + (4 * r + d)) := X_at_breads h (by omega)
    show ∃ σ', fX0_takeOldest_c8 (n + 1) (nI r) g0 l0 (nI d) σ = _ ∧ _
    rw [fX0_takeOldest_c8_s, if_neg (nI_pos (by omega))]
    by_cases k0 : l0 ≤ 0
    · have z : l0 = 0 := by rw [fa_eq]; rw [fa_le] at k0 hl; have : (0 : Int32).toInt = 0 := rfl; omega
      rw [if_pos k0, slN_idle r (d + 1) (s0, g0, l0) z hb]
      exact ⟨σ, rfl, h⟩
    · have em : ∀ v : Int32, (if v < l0 then v else l0) = (if l0 ≤ v then l0 else v) := fun v => by
        by_cases g : l0 ≤ v
        · rw [if_pos g, if_neg (by rw [fa_lt]; rw [fa_le] at g; omega)]
        · rw [if_neg g, if_pos (by rw [fa_lt]; rw [fa_le] at g; omega)]
      obtain ⟨its, hits⟩ : ∃ its, its = (if l0 ≤ s0 (223 + (4 * r + d)) then l0 else s0 (223 + (4 * r + d))) := ⟨_, rfl⟩
      have e0 : slN r (d + 1) (s0, g0, l0) = slN r d (upd s0 (223 + (4 * r + d)) (s0 (223 + (4 * r + d)) - its), (if g0 = -1 then (if its ≤ 0 then g0 else nI d) else g0), l0 - its) := by rw [hits]; rfl
      have hl2 : 0 ≤ l0 - its := by
        have hi0 : 0 ≤ its.toInt ∧ its.toInt ≤ l0.toInt := by
          rw [hits]
          rw [fa_le] at hl hb0
          by_cases g : l0 ≤ s0 (223 + (4 * r + d))
          · rw [if_pos g]; exact ⟨hl, Int.le_refl _⟩
          · rw [if_neg g]; rw [fa_le] at g; exact ⟨hb0, by omega⟩
        have := l0.toInt_lt
        rw [fa_le, Int32.toInt_sub, Int.bmod_eq_of_le (by omega) (by omega)]
        have : (0 : Int32).toInt = 0 := rfl
        omega
      have h2 := X_set_breads h hc (show 4 * r + d < 24 by omega) (s0 (223 + (4 * r + d)) - its)
      have c2 : caps (upd s0 (223 + (4 * r + d)) (s0 (223 + (4 * r + d)) - its)) := hc.upd (by omega) _
      have ed : nI d + -1 = lastOf d := by
        cases d with
        | zero => decide
        | succ d => exact nI_addneg (a := d + 1) (b := 1) (by omega)
      have tail : ∀ g1, ∃ σ', fX0_takeOldest_c8 n (nI r) g1 (l0 - its) (lastOf d) (xu σ 28 (4 * r + d) (s0 (223 + (4 * r + d)) - its)) = some ((slN r d (upd s0 (223 + (4 * r + d)) (s0 (223 + (4 * r + d)) - its), g1, l0 - its)).2.1, σ') ∧ RX σ' (H, (slN r d (upd s0 (223 + (4 * r + d)) (s0 (223 + (4 * r + d)) - its), g1, l0 - its)).1, tx) :=
        fun g1 => ih n _ (upd s0 (223 + (4 * r + d)) (s0 (223 + (4 * r + d)) - its), g1, l0 - its) (by omega) (by omega) c2 hl2 (fun k hk => by show 0 ≤ upd s0 (223 + (4 * r + d)) _ (223 + (4 * r + k)); rw [upd_ne _ _ (by omega)]; exact hb k (by omega)) h2
      rw [if_neg k0, show (4 : Int32) = nI 4 from rfl, nI_mul, Nat.mul_comm r 4, nI_add, xr_n (by omega) (by decide), a1, em, ← hits, xl_t, xl_t, xr_n (by omega) (by decide), a1, xs_n (by omega) (by decide), xl_t, e0]
      by_cases k2 : its ≤ 0
      · rw [if_pos k2, if_pos k2, ite_self, xl_t, ed]; exact tail g0
      · rw [if_neg k2, if_neg k2]
        by_cases k1 : g0 = -1
        · rw [if_pos k1, if_pos k1, xl_t, ed]; exact tail (nI d)
        · rw [if_neg k1, if_neg k1, xl_t, ed]; exact tail g0
def seS (s : sS) (r : Nat) (p1 : Int32) : sS := upd (slN r 4 (s, -1, p1)).1 9 ((slN r 4 (s, -1, p1)).1 9 + p1 * (slN r 4 (s, -1, p1)).1 (19 + r))
theorem slN_upd9 (r : Nat) (v : Int32) : ∀ (d : Nat) (s : sS) (g l : Int32), slN r d (upd s 9 v, g, l) = (upd (slN r d (s, g, l)).1 9 v, (slN r d (s, g, l)).2)
  | 0, _, _, _ => rfl
  | d + 1, s, g, l => by
    have e : upd s 9 v (223 + (4 * r + d)) = s (223 + (4 * r + d)) := upd_ne _ _ (by omega)
    show slN r d (upd (upd s 9 v) (223 + (4 * r + d)) (upd s 9 v (223 + (4 * r + d)) - (if l ≤ upd s 9 v (223 + (4 * r + d)) then l else upd s 9 v (223 + (4 * r + d)))), (if g = -1 then (if (if l ≤ upd s 9 v (223 + (4 * r + d)) then l else upd s 9 v (223 + (4 * r + d))) ≤ 0 then g else nI d) else g), l - (if l ≤ upd s 9 v (223 + (4 * r + d)) then l else upd s 9 v (223 + (4 * r + d)))) = _
    rw [e, upd_swap _ (show 9 ≠ 223 + (4 * r + d) by omega), slN_upd9 r v d]
    rfl
def sp_sell (p0 : Int32) (p1 : Int32) (a : xA) : xO × xA := if 0 ≤ p0 ∧ p0 ≤ a.2.1 5 - 1 then (if 1 ≤ p1 ∧ p1 ≤ 99 then (if brs a.2.1 p0.toNatClampNeg 0 < p1 then (.inr 2, a) else (.inl (slN p0.toNatClampNeg 4 (a.2.1, -1, p1)).2.1, (kp a.1 a.2.1, seS a.2.1 p0.toNatClampNeg p1, a.2.2))) else (.inr 1, a)) else (.inr 0, a)
theorem X_sell {N : Nat} {σ : xSt} {H : List sS} {s : sS} {tx : (Nat → Int32) × Nat} (h : RX σ (H, s, tx)) (hI : Inv N s) (p0 : Int32) (p1 : Int32) : XR (fX11_sell p0 p1 σ) (sp_sell p0 p1 (H, s, tx)) := by
  have hc := hI.caps
  obtain ⟨hcR, hcD, hcS, hcN, hrec, hE5, hE6, hE7, hE9⟩ := id hc
  unfold fX11_sell sp_sell
  rw [X_needRecipe h]
  show XR (xct (if 0 ≤ p0 ∧ p0 ≤ s 5 - 1 then _ else _) _) (if 0 ≤ p0 ∧ p0 ≤ s 5 - 1 then _ else _)
  by_cases g1 : 0 ≤ p0 ∧ p0 ≤ s 5 - 1
  · rw [if_pos g1, if_pos g1, xct_l, X_isWithin, xc2_t]
    obtain ⟨r, hr, rfl⟩ := x_cnt hE5 (by omega) g1
    have hr : r < cR s := hr
    rw [nI_clamp (show r < 2 ^ 31 by omega)]
    by_cases g2 : 1 ≤ p1 ∧ p1 ≤ 99
    · rw [if_pos g2, if_pos g2, X_needArgument1, xct_l]
      have ef : fX0_from (nI r) 0 σ = some (brs s r 0, σ) := X_from h (r := r) (a := 0) (by omega) (by decide)
      rw [ef, xc2_t]
      show XR (if brs s r 0 < p1 then _ else _) (if brs s r 0 < p1 then _ else _)
      by_cases g3 : brs s r 0 < p1
      · rw [if_pos g3, if_pos g3]
        exact ⟨σ, rfl, h⟩
      · rw [if_neg g3, if_neg g3]
        unfold fX11_sell_c33
        obtain ⟨σ1, e1, h1, -⟩ := X_remember h
        have a1 : σ1 5 r = s (19 + r) := X_at_piece h1 hr
        have a2 : σ1 2 2 = s 9 := X_at_sold h1
        have h2 := X_set_sold h1 hc (s 9 + p1 * s (19 + r))
        have c2 : caps (upd s 9 (s 9 + p1 * s (19 + r))) := hc.upd (by decide) _
        have hl : (0 : Int32) ≤ p1 := by have := g2.1; rw [fa_le] at this ⊢; have : (1 : Int32).toInt = 1 := rfl; have : (0 : Int32).toInt = 0 := rfl; omega
        obtain ⟨σ2, e2, h3⟩ := X_sellLoop (show r < 6 by omega) 4 xFU _ (upd s 9 (s 9 + p1 * s (19 + r)), -1, p1) (by decide) (by decide) c2 hl (fun k hk => by show 0 ≤ upd s 9 _ _; rw [upd_ne _ _ (by omega), fa_le]; exact (hI.bread (4 * r + k) (by omega)).1) h2
        rw [X_needState1, xct_l, e1, xc_t, xr_n (by omega) (by decide), a1, xp_t, a2]
        unfold fX0_takeOldest
        have e2 : fX0_takeOldest_c8 xFU (nI r) (-1) p1 3 (xu σ1 2 2 (s 9 + p1 * s (19 + r))) = _ := e2
        rw [e2, xc2_t, slN_upd9]
        rw [slN_upd9] at h3
        refine ⟨σ2, rfl, ?_⟩
        have es : seS s r p1 = upd (slN r 4 (s, -1, p1)).1 9 (s 9 + p1 * s (19 + r)) := by
          unfold seS
          rw [slN_out r 4 _ 9 (by omega), slN_out r 4 _ (19 + r) (by omega)]
        show RX σ2 (kp H s, seS s r p1, tx)
        rw [es]
        exact h3
    · rw [if_neg g2, if_neg g2, X_needArgument0, xct_r]
      exact ⟨σ, rfl, h⟩
  · rw [if_neg g1, if_neg g1, xct_r]
    exact ⟨σ, rfl, h⟩