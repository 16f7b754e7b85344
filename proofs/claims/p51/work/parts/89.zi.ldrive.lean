/-! isDriven: ways as numbers -/
def numP (c : List Nat) : Nat → Nat
  | 0 => 0
  | k + 1 => 10 * numP c k + gl c k
def rowM (K : Nat) : Nat → Nat → Nat → Bool
  | 0, V, _ => V == 2 ^ K - 1
  | j + 1, V, r => if r % 10 < K then rowM K j (oV V (r % 10)) (r / 10) else rowM K j V (r / 10)
def mD (c : List Nat) (K : Nat) : Nat → Nat
  | 0 => 0
  | t + 1 => oV (mD c K t) (gl c (K - 1 - t))
def okW (K : Nat) (c : List Nat) : Bool := (c.length == K) && ((rg 0 K).all fun j => decide (gl c j < K)) && ((rg 0 K).all fun t => !bV (mD c K t) (gl c (K - 1 - t)) && decide (mD c K t < 128)) && rowM K K 0 (numP c K) && decide (numP c K < 10 ^ K)
def srtB (K : Nat) : List (List Nat) → Bool
  | [] => true
  | c :: t => (t.all fun d => decide (numP c K < numP d K)) && srtB K t
def hasN (K way : Nat) : Bool := (prm K (rg 0 K)).any fun c => numP c K == way
set_option maxRecDepth 100000 in
theorem drv_fin : ∀ K, K < 5 → (prm K (rg 0 K)).all (okW K) = true ∧ srtB K (prm K (rg 0 K)) = true := by decide +kernel
theorem way1_fin : ∀ a, a < 10 → rowM 1 1 0 a = true → hasN 1 a = true := by decide +kernel
theorem way2_fin : ∀ a, a < 10 → ∀ b, b < 10 → rowM 2 2 0 (10 * a + b) = true → hasN 2 (10 * a + b) = true := by decide +kernel
set_option maxRecDepth 100000 in
theorem way3_fin : ∀ a, a < 10 → ∀ b, b < 10 → ∀ c, c < 10 → rowM 3 3 0 (100 * a + 10 * b + c) = true → hasN 3 (100 * a + 10 * b + c) = true := by decide +kernel
set_option maxRecDepth 100000 in
theorem way4_fin : ∀ a, a < 10 → ∀ b, b < 10 → ∀ c, c < 10 → ∀ d, d < 10 → rowM 4 4 0 (1000 * a + 100 * b + 10 * c + d) = true → hasN 4 (1000 * a + 100 * b + 10 * c + d) = true := by decide +kernel
theorem way_has {K way : Nat} (h1 : 1 ≤ K) (h4 : K ≤ 4) (hw : way < 10 ^ K) (h : rowM K K 0 way = true) : ∃ c, c ∈ prm K (rg 0 K) ∧ numP c K = way := by
  have key : hasN K way = true := by
    rcases (show K = 1 ∨ K = 2 ∨ K = 3 ∨ K = 4 by omega) with e | e | e | e
    · subst e
      exact way1_fin way (by omega) h
    · subst e
      have e : way = 10 * (way / 10) + way % 10 := by omega
      rw [e] at h ⊢
      exact way2_fin (way / 10) (by omega) (way % 10) (by omega) h
    · subst e
      have e : way = 100 * (way / 100) + 10 * (way / 10 % 10) + way % 10 := by omega
      rw [e] at h ⊢
      exact way3_fin (way / 100) (by omega) (way / 10 % 10) (by omega) (way % 10) (by omega) h
    · subst e
      have e : way = 1000 * (way / 1000) + 100 * (way / 100 % 10) + 10 * (way / 10 % 10) + way % 10 := by omega
      rw [e] at h ⊢
      exact way4_fin (way / 1000) (by omega) (way / 100 % 10) (by omega) (way / 10 % 10) (by omega) (way % 10) (by omega) h
  unfold hasN at key
  obtain ⟨c, h1, h2⟩ := List.any_eq_true.mp key
  exact ⟨c, h1, eq_of_beq h2⟩
theorem okW_of {K : Nat} (h4 : K ≤ 4) {c : List Nat} (hc : c ∈ prm K (rg 0 K)) : c.length = K ∧ (∀ j, j < K → gl c j < K) ∧ (∀ t, t < K → bV (mD c K t) (gl c (K - 1 - t)) = false ∧ mD c K t < 128) ∧ rowM K K 0 (numP c K) = true ∧ numP c K < 10 ^ K := by
  have h := List.all_eq_true.mp (drv_fin K (by omega)).1 c hc
  unfold okW at h
  rw [Bool.and_eq_true, Bool.and_eq_true, Bool.and_eq_true, Bool.and_eq_true] at h
  obtain ⟨⟨⟨⟨g1, g2⟩, g3⟩, g4⟩, g5⟩ := h
  have g2 := List.all_eq_true.mp g2
  have g3 := List.all_eq_true.mp g3
  refine ⟨eq_of_beq g1, fun j hj => of_decide_eq_true (g2 j ((rg_mem _ _ _).mpr (by omega))), fun t ht => ?_, g4, of_decide_eq_true g5⟩
  have q := g3 t ((rg_mem _ _ _).mpr (by omega))
  rw [Bool.and_eq_true] at q
  refine ⟨?_, of_decide_eq_true q.2⟩
  cases b : bV (mD c K t) (gl c (K - 1 - t)) with
  | false => rfl
  | true =>
    have q1 := q.1
    rw [b] at q1
    exact nomatch q1
/-- of rows in their order the first of the best is kept -/
theorem bs_keep {run : List Nat → Option Int} : ∀ (L : List (List Nat)) (e0 e : Int) (w0 p : List Nat), bs run [] (some (e0, w0)) L = some (e, p) → e ≤ e0 ∧ (e = e0 → p = w0)
  | [], e0, e, w0, p, h => by
    have h : some (e0, w0) = some (e, p) := h
    cases h
    exact ⟨Int.le_refl _, fun _ => rfl⟩
  | c :: t, e0, e, w0, p, h => by
    have h : bs run [] (stB (some (e0, w0)) (run c) ([] ++ c)) t = some (e, p) := h
    cases hr : run c with
    | none =>
      rw [hr] at h
      exact bs_keep t e0 e w0 p h
    | some e1 =>
      rw [hr] at h
      have h : bs run [] (if e1 < e0 then some (e1, [] ++ c) else some (e0, w0)) t = some (e, p) := h
      by_cases g : e1 < e0
      · rw [if_pos g] at h
        have := bs_keep t e1 e _ p h
        exact ⟨by omega, fun h9 => by omega⟩
      · rw [if_neg g] at h
        exact bs_keep t e0 e w0 p h
theorem bs_first {run : List Nat → Option Int} {K : Nat} : ∀ (L : List (List Nat)) (b : Option (Int × List Nat)) (e : Int) (p : List Nat), srtB K L = true → (∀ e0 w0, b = some (e0, w0) → ∀ c, c ∈ L → numP w0 K < numP c K) → bs run [] b L = some (e, p) → ∀ c, c ∈ L → run c = some e → numP p K ≤ numP c K
  | [], _, _, _, _, _, _, c, hc, _ => nomatch hc
  | a :: t, b, e, p, hs, hb, h, c, hc, hr => by
    have hs : ((t.all fun d => decide (numP a K < numP d K)) && srtB K t) = true := hs
    rw [Bool.and_eq_true] at hs
    have ha := List.all_eq_true.mp hs.1
    have h : bs run [] (stB b (run a) ([] ++ a)) t = some (e, p) := h
    have hb' : ∀ e0 w0, stB b (run a) ([] ++ a) = some (e0, w0) → ∀ c, c ∈ t → numP w0 K < numP c K := by
      intro e0 w0 h0 c hc
      have ac := of_decide_eq_true (ha c hc)
      cases hra : run a with
      | none =>
        rw [hra] at h0
        exact hb e0 w0 h0 c (List.mem_cons_of_mem _ hc)
      | some e1 =>
        rw [hra] at h0
        cases b with
        | none =>
          have h0 : some (e1, [] ++ a) = some (e0, w0) := h0
          cases h0
          exact ac
        | some b =>
          obtain ⟨e2, w2⟩ := b
          have h0 : (if e1 < e2 then some (e1, [] ++ a) else some (e2, w2)) = some (e0, w0) := h0
          by_cases g : e1 < e2
          · rw [if_pos g] at h0
            cases h0
            exact ac
          · rw [if_neg g] at h0
            cases h0
            exact hb _ _ rfl c (List.mem_cons_of_mem _ hc)
    rcases List.mem_cons.mp hc with e9 | e9
    · subst e9
      rw [hr] at h
      cases b with
      | none =>
        have h : bs run [] (some (e, [] ++ c)) t = some (e, p) := h
        rw [(bs_keep t e e _ p h).2 rfl]
        exact Nat.le_refl _
      | some b =>
        obtain ⟨e2, w2⟩ := b
        have h : bs run [] (if e < e2 then some (e, [] ++ c) else some (e2, w2)) t = some (e, p) := h
        by_cases g : e < e2
        · rw [if_pos g] at h
          rw [(bs_keep t e e _ p h).2 rfl]
          exact Nat.le_refl _
        · rw [if_neg g] at h
          have k := bs_keep t e2 e _ p h
          rw [k.2 (by omega)]
          have := hb e2 w2 rfl c hc
          omega
    · exact bs_first t _ e p hs.2 hb' h c e9 hr
/-- a number tells one row -/
theorem srt_inj {K : Nat} : ∀ {L : List (List Nat)}, srtB K L = true → ∀ {x y : List Nat}, x ∈ L → y ∈ L → numP x K = numP y K → x = y
  | [], _, x, _, hx, _, _ => nomatch hx
  | a :: t, hs, x, y, hx, hy, e => by
    have hs : ((t.all fun d => decide (numP a K < numP d K)) && srtB K t) = true := hs
    rw [Bool.and_eq_true] at hs
    have ha := List.all_eq_true.mp hs.1
    rcases List.mem_cons.mp hx with h1 | h1
    · rcases List.mem_cons.mp hy with h2 | h2
      · rw [h1, h2]
      · have := of_decide_eq_true (ha y h2)
        rw [h1] at e
        omega
    · rcases List.mem_cons.mp hy with h2 | h2
      · have := of_decide_eq_true (ha x h1)
        rw [h2] at e
        omega
      · exact srt_inj hs.2 h1 h2 e
