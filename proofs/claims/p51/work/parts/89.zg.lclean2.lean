/-! isClean: the least price, as the law seeks it -/
def lastI (f : Nat) : Int32 := if f = 7 then -1 else nI f
theorem P_priceF {R : Nat} {σ : xSt} {s : sS} (w : LW R σ s) {f j : Nat} (hf : f = 7 ∨ f < R) (hj : j < R) : ∃ z : Nat, z ≤ 14 ∧ pc s f j = (z : Int) ∧ ∀ {β : Type} (K : Int32 → xSt → Option β), (if 0 ≤ lastI f then (xc2 (fL_price (lastI f) (nI j) σ) fun r2 σ3 => K r2 σ3) else K 0 σ) = K (nI z) σ := by
  have hR := w.2.1
  unfold lastI
  by_cases c : f = 7
  · refine ⟨0, by omega, if_pos c, fun K => ?_⟩
    rw [if_pos c, if_neg (by decide)]
    rfl
  · obtain ⟨z, z1, z2, z3⟩ := P_priceR w (i := f) (j := j) (by omega) hj
    refine ⟨z, z1, z2, fun K => ?_⟩
    rw [if_neg c, if_pos (nI_pos' (by omega)), xc2_s z3]
/-- the best of the rows that begin with a recipe before k -/
def Q7 (s : sS) (f U m k : Nat) (b : Int32) : Prop := (b = 2147483647 ∧ ∀ x, x < k → bV U x = false) ∨ ∃ v : Nat, v ≤ 14 * (m + 1) ∧ b = nI v ∧ (∃ x c, x < k ∧ bV U x = true ∧ c ∈ prm m (remS (cB U x)) ∧ runP s f 0 (x :: c) = some (v : Int)) ∧ ∀ x c, x < k → bV U x = true → c ∈ prm m (remS (cB U x)) → ∀ z, runP s f 0 (x :: c) = some z → (v : Int) ≤ z
theorem Q7_no {s : sS} {f U m k : Nat} {b : Int32} (h : Q7 s f U m k b) (hk : bV U k = false) : Q7 s f U m (k + 1) b := by
  rcases h with ⟨h1, h2⟩ | ⟨v, h1, h2, ⟨x, c, h3, h4⟩, h5⟩
  · refine Or.inl ⟨h1, fun x hx => ?_⟩
    by_cases e : x = k
    · rw [e]
      exact hk
    · exact h2 x (by omega)
  · refine Or.inr ⟨v, h1, h2, ⟨x, c, by omega, h4⟩, fun y d hy hb => ?_⟩
    by_cases e : y = k
    · rw [e, hk] at hb
      exact nomatch hb
    · exact h5 y d (by omega) hb
theorem Q7_yes {s : sS} {f U m k v z : Nat} {b : Int32} (h : Q7 s f U m k b) (hk : bV U k = true) (hl : (remS (cB U k)).length = m) (hm : m ≤ 6) (hv : v ≤ 14 * m) (hz : z ≤ 14) (hp : pc s f k = (z : Int)) (ls : lsP s k (cB U k) v) : Q7 s f U m (k + 1) (if nI z + nI v < b then nI z + nI v else b) := by
  obtain ⟨⟨c0, c1, c2⟩, c3⟩ := ls
  rw [hl] at c1 c3
  have run1 : ∀ c t, runP s k 0 c = some t → runP s f 0 (k :: c) = some (t + (z : Int)) := fun c t ht => by
    have := runP_add s (z : Int) c k 0 t ht
    show runP s k (0 + pc s f k) c = _
    rw [hp]
    exact this
  have run2 : ∀ c t, runP s f 0 (k :: c) = some t → runP s k 0 c = some (t - (z : Int)) := fun c t ht => by
    have ht : runP s k (0 + pc s f k) c = some t := ht
    rw [hp] at ht
    have := runP_add s (-(z : Int)) c k _ t ht
    rw [show 0 + (z : Int) + -(z : Int) = 0 by omega, show t + -(z : Int) = t - (z : Int) by omega] at this
    exact this
  have new : ∃ x c, x < k + 1 ∧ bV U x = true ∧ c ∈ prm m (remS (cB U x)) ∧ runP s f 0 (x :: c) = some ((z + v : Nat) : Int) := ⟨k, c0, Nat.lt_succ_self k, hk, c1, by rw [run1 c0 _ c2, show ((z + v : Nat) : Int) = (v : Int) + (z : Int) by omega]⟩
  have newle : ∀ c, c ∈ prm m (remS (cB U k)) → ∀ t, runP s f 0 (k :: c) = some t → ((z + v : Nat) : Int) ≤ t := fun c hc t ht => by
    have := c3 c hc _ (run2 c t ht)
    omega
  rw [nI_add]
  rcases h with ⟨h1, h2⟩ | ⟨v0, h1, h2, h3, h5⟩
  · rw [h1, if_pos (show nI (z + v) < (2147483647 : Int32) from nI_lt (b := 2147483647) (by omega) (by decide))]
    refine Or.inr ⟨z + v, by omega, rfl, new, fun y d hy hb hd t ht => ?_⟩
    by_cases e : y = k
    · rw [e] at hd ht
      exact newle d hd t ht
    · rw [h2 y (by omega)] at hb
      exact nomatch hb
  · rw [h2]
    by_cases g : z + v < v0
    · rw [if_pos (nI_lt g (by omega))]
      refine Or.inr ⟨z + v, by omega, rfl, new, fun y d hy hb hd t ht => ?_⟩
      by_cases e : y = k
      · rw [e] at hd ht
        exact newle d hd t ht
      · have := h5 y d (by omega) hb hd t ht
        omega
    · rw [if_neg (nI_nlt (by omega) (by omega))]
      obtain ⟨x, c, h6, h7⟩ := h3
      refine Or.inr ⟨v0, h1, rfl, ⟨x, c, by omega, h7⟩, fun y d hy hb hd t ht => ?_⟩
      by_cases e : y = k
      · rw [e] at hd ht
        have := newle d hd t ht
        omega
      · exact h5 y d (by omega) hb hd t ht
theorem cB_sub : ∀ U, U < 64 → ∀ k, k < 6 → ∀ a, a < 6 → bV (cB U k) a = true → bV U a = true := by decide +kernel
theorem P_cheapest {R : Nat} {σ : xSt} {s : sS} (w : LW R σ s) : ∀ (m d f U : Nat), U < 64 → (remS U).length = m → m < d → (∀ a, a < 6 → bV U a = true → a < R) → (f = 7 ∨ f < R) → ∃ v : Nat, v ≤ 14 * m ∧ lsP s f U v ∧ fL_cheapest d (nI U) (lastI f) σ = some (nI v, σ)
  | m, 0, _, _, _, _, h, _, _ => absurd h (Nat.not_lt_zero _)
  | 0, d + 1, f, U, hU, hl, _, hR6, hf => by
    have hR := w.2.1
    have u0 : U = 0 := (remS_len U hU).2.mp hl
    subst u0
    refine ⟨0, Nat.le_refl _, ⟨⟨[], by rw [hl]; exact List.mem_singleton.mpr rfl, rfl⟩, fun c hc z hz => ?_⟩, ?_⟩
    · rw [hl] at hc
      have e : c = [] := List.mem_singleton.mp hc
      rw [e] at hz
      have hz : some (0 : Int) = some z := hz
      cases hz
      exact Int.le_refl _
    · have no : ∀ k, k < 6 → bV 0 k = false := by decide
      have loop : ∀ (t k n : Nat) (b : Int32), k + t = R → t < n → fL_cheapest_c7 (fL_cheapest d) n (nI 0) (lastI f) b (nI k) σ = some (0, σ) := by
        intro t
        induction t with
        | zero =>
          intro k n b hk hn
          match n, hn with
          | n + 1, _ =>
            rw [fL_cheapest_c7_s, w.1.1, if_pos (nI_le (by omega) (by omega)), if_pos (show nI 0 = 0 from rfl)]
        | succ t ih =>
          intro k n b hk hn
          match n, hn with
          | n + 1, hn =>
            have bA := bit6 0 (by omega) k (by omega)
            have n0 : ¬ (((nI 0) >>> ((nI k) &&& 31)) &&& 1) = 1 := fun h9 => by
              have := bA.2.1.mp h9
              rw [no k (by omega)] at this
              exact nomatch this
            rw [fL_cheapest_c7_s, w.1.1, if_neg (nI_ge (by omega) (by omega)), if_neg n0, xl_t, ← nI_succ]
            exact ih (k + 1) n b (by omega) (by omega)
      rw [fL_cheapest_s]
      exact loop R 0 xFU 2147483647 (by omega) (by have h9 : xFU = 8192 := rfl; omega)
  | m + 1, d + 1, f, U, hU, hl, hd, hR6, hf => by
    have hR := w.2.1
    have l6 := (remS_len U hU).1
    have un : ¬ nI U = 0 := fun h9 => by
      have u0 := (nI_eq (a := U) (b := 0) (by omega) (by omega)).mp h9
      have := (remS_len U hU).2.mpr u0
      omega
    have loop : ∀ (t k n : Nat) (b : Int32), k + t = R → t < n → Q7 s f U m k b → ∃ b', Q7 s f U m R b' ∧ fL_cheapest_c7 (fL_cheapest d) n (nI U) (lastI f) b (nI k) σ = some (b', σ) := by
      intro t
      induction t with
      | zero =>
        intro k n b hk hn hq
        match n, hn with
        | n + 1, _ =>
          obtain rfl : k = R := by omega
          refine ⟨b, hq, ?_⟩
          rw [fL_cheapest_c7_s, w.1.1, if_pos (nI_le (by omega) (by omega)), if_neg un]
      | succ t ih =>
        intro k n b hk hn hq
        match n, hn with
        | n + 1, hn =>
          have bA := bit6 U hU k (by omega)
          cases hb : bV U k with
          | false =>
            have n0 : ¬ (((nI U) >>> ((nI k) &&& 31)) &&& 1) = 1 := fun h9 => by
              have := bA.2.1.mp h9
              rw [hb] at this
              exact nomatch this
            obtain ⟨b', q', e'⟩ := ih (k + 1) n b (by omega) (by omega) (Q7_no hq hb)
            refine ⟨b', q', ?_⟩
            rw [fL_cheapest_c7_s, w.1.1, if_neg (nI_ge (by omega) (by omega)), if_neg n0, xl_t, ← nI_succ]
            exact e'
          | true =>
            have rf := (remS_fin U hU k (by omega) hb).2
            obtain ⟨v, v1, v2, v3⟩ := P_cheapest w m d k (cB U k) bA.2.2.2 (by omega) (by omega) (fun a ha hab => hR6 a ha (cB_sub U hU k (by omega) a ha hab)) (Or.inr (by omega))
            obtain ⟨z, z1, z2, z3⟩ := P_priceF w (f := f) (j := k) hf (by omega)
            obtain ⟨b', q', e'⟩ := ih (k + 1) n _ (by omega) (by omega) (Q7_yes hq hb (by omega) (by omega) v1 z1 z2 v2)
            refine ⟨b', q', ?_⟩
            have lk : lastI k = nI k := if_neg (by omega)
            rw [lk] at v3
            rw [fL_cheapest_c7_s, w.1.1, if_neg (nI_ge (by omega) (by omega)), if_pos (bA.2.1.mpr hb), z3 (fun r2 σ3 => fL_cheapest_c42 (fL_cheapest d) (fL_cheapest_c7 (fL_cheapest d) n) (nI U) (lastI f) (nI k) r2 b σ3)]
            unfold fL_cheapest_c42
            rw [bA.2.2.1, xc2_s v3, xl_t, xl_t, ← nI_succ]
            exact e'
    obtain ⟨b', q', e'⟩ := loop R 0 xFU 2147483647 (by omega) (by have h9 : xFU = 8192 := rfl; omega) (Or.inl ⟨rfl, fun x hx => absurd hx (Nat.not_lt_zero _)⟩)
    rw [fL_cheapest_s]
    rcases q' with ⟨_, h2⟩ | ⟨v, h1, h2, ⟨x, c, h3, h4, h5, h6⟩, h7⟩
    · exfalso
      have : ∃ a, a ∈ remS U := by
        cases hr : remS U with
        | nil =>
          rw [hr] at hl
          exact nomatch hl
        | cons a t => exact ⟨a, List.mem_cons_self⟩
      obtain ⟨a, ha⟩ := this
      obtain ⟨a1, a2⟩ := remS_mem.mp ha
      rw [h2 a (hR6 a a1 a2)] at a2
      exact nomatch a2
    · refine ⟨v, h1, ⟨⟨x :: c, ?_, h6⟩, fun y hy t ht => ?_⟩, by rw [← h2]; exact e'⟩
      · rw [hl]
        refine cons_prm (remS_mem.mpr ⟨by omega, h4⟩) ?_
        rw [(remS_fin U hU x (by omega) h4).1]
        exact h5
      · rw [hl] at hy
        obtain ⟨y0, dd, e, y1, y2⟩ := prm_cons hy
        obtain ⟨a1, a2⟩ := remS_mem.mp y1
        rw [(remS_fin U hU y0 a1 a2).1] at y2
        rw [e] at ht
        exact h7 y0 dd (hR6 y0 a1 a2) a2 y2 t ht
