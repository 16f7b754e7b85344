/-! ===== ERRORS: the plan gives all a round where all can have one ===== -/
def cnB (p : Nat → Bool) : Nat → Nat
  | 0 => 0
  | k + 1 => cnB p k + (if p k = true then 1 else 0)
theorem cnB_congr {p q : Nat → Bool} : ∀ n, (∀ k, k < n → p k = q k) → cnB p n = cnB q n
  | 0, _ => rfl
  | n + 1, h => by
    unfold cnB
    rw [cnB_congr n (fun k hk => h k (by omega)), h n (by omega)]
theorem cnB_le {p q : Nat → Bool} : ∀ n, (∀ k, k < n → p k = true → q k = true) → cnB p n ≤ cnB q n
  | 0, _ => Nat.le_refl _
  | n + 1, h => by
    unfold cnB
    have h1 := cnB_le n (fun k hk => h k (by omega))
    have h2 := h n (by omega)
    by_cases c : p n = true
    · rw [if_pos c, if_pos (h2 c)]; omega
    · rw [if_neg c]; omega
theorem cnB_zero {p : Nat → Bool} : ∀ n, (∀ k, k < n → p k = false) → cnB p n = 0
  | 0, _ => rfl
  | n + 1, h => by
    unfold cnB
    rw [cnB_zero n (fun k hk => h k (by omega)), h n (by omega)]
    rfl
theorem cnB_one {p q : Nat → Bool} {x : Nat} (hp : p x = false) (hq : q x = true) : ∀ n, x < n → (∀ k, k < n → k ≠ x → p k = q k) → cnB q n = cnB p n + 1
  | 0, h, _ => by omega
  | n + 1, h, he => by
    unfold cnB
    by_cases c : n = x
    · rw [c, hp, hq, cnB_congr (p := p) (q := q) x (fun k hk => he k (by omega) (by omega))]
      rfl
    · rw [cnB_one hp hq n (by omega) (fun k hk hne => he k (by omega) hne), he n (by omega) c]
      omega
theorem cnB_lt {p q : Nat → Bool} {x n : Nat} (hx : x < n) (hp : p x = false) (hq : q x = true) (h : ∀ k, k < n → p k = true → q k = true) : cnB p n + 1 ≤ cnB q n := by
  have h1 := cnB_one (p := p) (q := fun k => if k = x then true else p k) hp (if_pos rfl) n hx (fun k _ hk => (if_neg hk).symm)
  have h2 := cnB_le (p := fun k => if k = x then true else p k) (q := q) n (fun k hk hk2 => by
    by_cases c : k = x
    · rw [c]; exact hq
    · have hk2 : (if k = x then true else p k) = true := hk2
      rw [if_neg c] at hk2
      exact h k hk hk2)
  omega
theorem cnB_ex {p q : Nat → Bool} {n : Nat} (h : cnB p n < cnB q n) : ∃ x, x < n ∧ q x = true ∧ p x = false := by
  by_cases c : ∃ x, x < n ∧ q x = true ∧ p x = false
  · exact c
  · exfalso
    have := cnB_le (p := q) (q := p) n (fun k hk hq => by
      cases hp : p k with
      | true => rfl
      | false => exact absurd ⟨k, hk, hq, hp⟩ c)
    omega
def updN (f : Nat → Nat) (x v k : Nat) : Nat := if k = x then v else f k
def atS (F L : Nat → Int) (S : Nat → Nat) (i k : Nat) : Bool := decide (F k ≤ L k ∧ S k = i)
def atR (F L : Nat → Int) (S : Nat → Nat) (R : Nat → Int32) (i k : Nat) : Bool := decide (F k ≤ L k ∧ R k ≠ -1 ∧ S k = i)
def feaS (F L : Nat → Int) (D b0 m : Nat) (S : Nat → Nat) : Prop := (∀ k, k < D → F k ≤ L k → F k ≤ ((b0 + 10 * S k : Nat) : Int) ∧ ((b0 + 10 * S k : Nat) : Int) ≤ L k ∧ S k < 40) ∧ ∀ i, cnB (atS F L S i) D ≤ m
theorem cn_upd {F L : Nat → Int} {S : Nat → Nat} {D x v i : Nat} (hx : x < D) (hP : F x ≤ L x) : cnB (atS F L (updN S x v) i) D + (if S x = i then 1 else 0) = cnB (atS F L S i) D + (if v = i then 1 else 0) := by
  have off : ∀ k, k < D → k ≠ x → atS F L (updN S x v) i k = atS F L S i k := fun k _ hk => by
    unfold atS updN
    rw [if_neg hk]
  have a1 : atS F L (updN S x v) i x = decide (v = i) := by
    unfold atS updN
    rw [if_pos rfl]
    exact decide_eq_decide.mpr ⟨fun h => h.2, fun h => ⟨hP, h⟩⟩
  have a2 : atS F L S i x = decide (S x = i) := by
    unfold atS
    exact decide_eq_decide.mpr ⟨fun h => h.2, fun h => ⟨hP, h⟩⟩
  by_cases c1 : S x = i
  · by_cases c2 : v = i
    · rw [if_pos c1, if_pos c2, cnB_congr (p := atS F L (updN S x v) i) (q := atS F L S i) D (fun k hk => by
        by_cases e : k = x
        · rw [e, a1, a2, decide_eq_true c1, decide_eq_true c2]
        · exact off k hk e)]
    · rw [if_pos c1, if_neg c2]
      have := cnB_one (p := atS F L (updN S x v) i) (q := atS F L S i) (x := x) (by rw [a1]; exact decide_eq_false c2) (by rw [a2]; exact decide_eq_true c1) D hx off
      omega
  · by_cases c2 : v = i
    · rw [if_neg c1, if_pos c2]
      have := cnB_one (p := atS F L S i) (q := atS F L (updN S x v) i) (x := x) (by rw [a2]; exact decide_eq_false c1) (by rw [a1]; exact decide_eq_true c2) D hx (fun k hk hne => (off k hk hne).symm)
      omega
    · rw [if_neg c1, if_neg c2, cnB_congr (p := atS F L (updN S x v) i) (q := atS F L S i) D (fun k hk => by
        by_cases e : k = x
        · rw [e, a1, a2, decide_eq_false c1, decide_eq_false c2]
        · exact off k hk e)]
theorem edf_slot {F L : Nat → Int} {D b0 m j : Nat} (hb : b0 + 10 * j < 2000000000) : ∀ (m' : Nat) (R : Nat → Int32) (S : Nat → Nat) (t : Nat), t + m' = m → feaS F L D b0 m S → (∀ k, k < D → F k ≤ L k → R k ≠ -1 → S k ≤ j) → (∀ k, k < D → F k ≤ L k → R k = -1 → j ≤ S k) → cnB (atR F L S R j) D = t → ∃ S', feaS F L D b0 m S' ∧ (∀ k, k < D → F k ≤ L k → grS F L D (b0 + 10 * j) m' R k ≠ -1 → S' k ≤ j) ∧ (∀ k, k < D → F k ≤ L k → grS F L D (b0 + 10 * j) m' R k = -1 → j + 1 ≤ S' k) := by
  intro m'
  induction m' with
  | zero =>
    intro R S t ht hf h1 h2 h3
    refine ⟨S, hf, h1, fun k hk hP hR => ?_⟩
    have hR : R k = -1 := hR
    have h4 := h2 k hk hP hR
    by_cases c : S k = j
    · exfalso
      have a := cnB_lt (p := atR F L S R j) (q := atS F L S j) hk (decide_eq_false (fun h9 => h9.2.1 hR)) (decide_eq_true ⟨hP, c⟩) (fun k _ h9 => by
        have h9 := of_decide_eq_true h9
        exact decide_eq_true ⟨h9.1, h9.2.2⟩)
      have := hf.2 j
      omega
    · omega
  | succ m' ih =>
    intro R S t ht hf h1 h2 h3
    cases e : nxS F L R (b0 + 10 * j) D with
    | none =>
      rw [grS_none e]
      refine ⟨S, hf, h1, fun k hk hP hR => ?_⟩
      have h4 := h2 k hk hP hR
      by_cases c : S k = j
      · exfalso
        have g := hf.1 k hk hP
        rw [c] at g
        exact (nxS_none D).mpr e k hk ⟨hR, g.1, g.2.1⟩
      · omega
    | some x =>
      obtain ⟨hx, ⟨hRx, hFx, hLx⟩, hmin⟩ := nxS_some D x e
      have hPx : F x ≤ L x := by omega
      have eg : grS F L D (b0 + 10 * j) (m' + 1) R = grS F L D (b0 + 10 * j) m' (upd R x (nI (b0 + 10 * j))) := by
        show (match nxS F L R (b0 + 10 * j) D with | none => R | some j' => grS F L D (b0 + 10 * j) m' (upd R j' (nI (b0 + 10 * j)))) = _
        rw [e]
      rw [eg]
      have hne : upd R x (nI (b0 + 10 * j)) x ≠ -1 := by rw [upd_at]; exact nIm1 hb
      have go : ∀ S' : Nat → Nat, feaS F L D b0 m S' → S' x = j → (∀ k, k < D → F k ≤ L k → k ≠ x → R k ≠ -1 → S' k = S k) → (∀ k, k < D → F k ≤ L k → k ≠ x → R k = -1 → j ≤ S' k) → ∃ S', feaS F L D b0 m S' ∧ (∀ k, k < D → F k ≤ L k → grS F L D (b0 + 10 * j) m' (upd R x (nI (b0 + 10 * j))) k ≠ -1 → S' k ≤ j) ∧ (∀ k, k < D → F k ≤ L k → grS F L D (b0 + 10 * j) m' (upd R x (nI (b0 + 10 * j))) k = -1 → j + 1 ≤ S' k) := fun S' q1 q2 q3 q4 => by
        refine ih (upd R x (nI (b0 + 10 * j))) S' (t + 1) (by omega) q1 (fun k hk hP hR => ?_) (fun k hk hP hR => ?_) ?_
        · by_cases c : k = x
          · rw [c, q2]; exact Nat.le_refl _
          · rw [upd_ne _ _ c] at hR
            rw [q3 k hk hP c hR]; exact h1 k hk hP hR
        · by_cases c : k = x
          · rw [c] at hR; exact absurd hR hne
          · rw [upd_ne _ _ c] at hR
            exact q4 k hk hP c hR
        · rw [← h3]
          refine cnB_one (p := atR F L S R j) (q := atR F L S' (upd R x (nI (b0 + 10 * j))) j) (x := x) (decide_eq_false (fun h9 => h9.2.1 hRx)) (decide_eq_true ⟨hPx, hne, q2⟩) D hx (fun k hk hk2 => ?_)
          unfold atR
          rw [upd_ne _ _ hk2]
          refine decide_eq_decide.mpr ⟨fun h9 => ⟨h9.1, h9.2.1, ?_⟩, fun h9 => ⟨h9.1, h9.2.1, ?_⟩⟩
          · rw [q3 k hk h9.1 hk2 h9.2.1]; exact h9.2.2
          · rw [← q3 k hk h9.1 hk2 h9.2.1]; exact h9.2.2
      by_cases c : S x = j
      · exact go S hf c (fun _ _ _ _ _ => rfl) (fun k hk hP _ hR => h2 k hk hP hR)
      · have hSx := hf.1 x hx hPx
        have hjx := h2 x hx hPx hRx
        by_cases full : cnB (atS F L S j) D < m
        · refine go (updN S x j) ⟨fun k hk hP => ?_, fun i => ?_⟩ (if_pos rfl) (fun k _ _ hk2 _ => if_neg hk2) (fun k hk hP hk2 hR => ?_)
          · by_cases c2 : k = x
            · show F k ≤ ((b0 + 10 * updN S x j k : Nat) : Int) ∧ ((b0 + 10 * updN S x j k : Nat) : Int) ≤ L k ∧ updN S x j k < 40
              unfold updN
              rw [if_pos c2, c2]
              exact ⟨hFx, hLx, by omega⟩
            · unfold updN
              rw [if_neg c2]
              exact hf.1 k hk hP
          · have u := cn_upd (S := S) (v := j) (i := i) hx hPx
            have w := hf.2 i
            by_cases c2 : j = i
            · rw [← c2] at u ⊢
              rw [if_neg c, if_pos rfl] at u
              omega
            · rw [if_neg c2] at u
              omega
          · show j ≤ updN S x j k
            unfold updN
            rw [if_neg hk2]; exact h2 k hk hP hR
        · have w := hf.2 j
          obtain ⟨y, hy, y1, y2⟩ := cnB_ex (p := atR F L S R j) (q := atS F L S j) (n := D) (by omega)
          obtain ⟨hPy, hSy⟩ := of_decide_eq_true y1
          have hRy : R y = -1 := by
            by_cases g : R y = -1
            · exact g
            · exact absurd ⟨hPy, g, hSy⟩ (of_decide_eq_false y2)
          have fy := hf.1 y hy hPy
          rw [hSy] at fy
          have hxy := hmin y hy ⟨hRy, fy.1, fy.2.1⟩
          have nyx : y ≠ x := fun h9 => c (by rw [← h9]; exact hSy)
          have v1 : ∀ k, k ≠ x → k ≠ y → updN (updN S x j) y (S x) k = S k := fun k k1 k2 => by
            unfold updN
            rw [if_neg k2, if_neg k1]
          have v2 : updN (updN S x j) y (S x) x = j := by
            unfold updN
            rw [if_neg (fun h9 => nyx h9.symm), if_pos rfl]
          have v3 : updN (updN S x j) y (S x) y = S x := if_pos rfl
          refine go (updN (updN S x j) y (S x)) ⟨fun k hk hP => ?_, fun i => ?_⟩ v2 (fun k hk hP k1 hR => v1 k k1 (fun h9 => hR (by rw [h9]; exact hRy))) (fun k hk hP k1 hR => ?_)
          · by_cases c2 : k = y
            · rw [c2, v3]
              refine ⟨?_, ?_, hSx.2.2⟩
              · omega
              · omega
            · by_cases c3 : k = x
              · rw [c3, v2]; exact ⟨hFx, hLx, by omega⟩
              · rw [v1 k c3 c2]; exact hf.1 k hk hP
          · have u1 := cn_upd (S := S) (v := j) (i := i) hx hPx
            have u2 := cn_upd (S := updN S x j) (v := S x) (i := i) hy hPy
            have e3 : updN S x j y = j := by
              unfold updN
              rw [if_neg nyx]; exact hSy
            rw [e3] at u2
            have := hf.2 i
            omega
          · by_cases c2 : k = y
            · rw [c2, v3]; exact hjx
            · rw [v1 k k1 c2]; exact h2 k hk hP hR
theorem edf_all {F L : Nat → Int} {D b0 m : Nat} (hb : b0 < 1000000) {S0 : Nat → Nat} (h0 : feaS F L D b0 m S0) : ∀ j, j ≤ 40 → ∃ S, feaS F L D b0 m S ∧ (∀ k, k < D → F k ≤ L k → rnS F L D m b0 j k ≠ -1 → S k < j) ∧ (∀ k, k < D → F k ≤ L k → rnS F L D m b0 j k = -1 → j ≤ S k) := by
  intro j
  induction j with
  | zero => intro _; exact ⟨S0, h0, fun k _ _ hR => absurd rfl hR, fun k _ _ _ => Nat.zero_le _⟩
  | succ j ih =>
    intro hj
    obtain ⟨S, h1, h2, h3⟩ := ih (by omega)
    obtain ⟨S', g1, g2, g3⟩ := edf_slot (F := F) (L := L) (D := D) (b0 := b0) (m := m) (j := j) (by omega) m (rnS F L D m b0 j) S 0 (Nat.zero_add _) h1 (fun k hk hP hR => by have := h2 k hk hP hR; omega) h3 (cnB_zero D (fun k hk => decide_eq_false (fun h9 => by have := h2 k hk h9.1 h9.2.1; omega)))
    exact ⟨S', g1, fun k hk hP hR => by have := g2 k hk hP hR; omega, g3⟩
theorem edf_done {F L : Nat → Int} {D b0 m : Nat} (hb : b0 < 1000000) {S0 : Nat → Nat} (h0 : feaS F L D b0 m S0) {k : Nat} (hk : k < D) (hP : F k ≤ L k) : rnS F L D m b0 40 k ≠ -1 := by
  obtain ⟨S, h1, h2, h3⟩ := edf_all hb h0 40 (Nat.le_refl _)
  intro hR
  have a := h3 k hk hP hR
  have b := (h1.1 k hk hP).2.2
  omega
