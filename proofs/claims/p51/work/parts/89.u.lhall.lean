/-! the plan: what a dough is given, and why one that is late is late -/
def slB (R : Nat → Int32) (b : Nat) (k : Nat) : Bool := decide (R k = nI b)
def slLB (L : Nat → Int) (R : Nat → Int32) (b : Nat) (z : Int) (k : Nat) : Bool := decide (R k = nI b ∧ L k ≤ z)
/-- all that a round is given -/
theorem grS_val {F L : Nat → Int} {D b : Nat} : ∀ m R k, grS F L D b m R k = R k ∨ (R k = -1 ∧ k < D ∧ grS F L D b m R k = nI b ∧ F k ≤ b ∧ (b : Int) ≤ L k)
  | 0, R, k => Or.inl rfl
  | m + 1, R, k => by
    cases e : nxS F L R b D with
    | none =>
      have eg : grS F L D b (m + 1) R = R := by unfold grS; rw [e]
      rw [eg]
      exact Or.inl rfl
    | some j =>
      have eg : grS F L D b (m + 1) R = grS F L D b m (upd R j (nI b)) := by
        show (match nxS F L R b D with | none => R | some j => grS F L D b m (upd R j (nI b))) = _
        rw [e]
      obtain ⟨j1, j2, j3⟩ := nxS_some D j e
      rw [eg]
      by_cases c : k = j
      · subst c
        rcases grS_val m (upd R k (nI b)) k with h9 | h9
        · exact Or.inr ⟨j2.1, j1, h9.trans (upd_at _ _ _), j2.2.1, j2.2.2⟩
        · exact Or.inr ⟨j2.1, j1, h9.2.2.1, j2.2.1, j2.2.2⟩
      · have e2 : upd R j (nI b) k = R k := upd_ne _ _ c
        rcases grS_val m (upd R j (nI b)) k with h9 | h9
        · exact Or.inl (h9.trans e2)
        · rw [e2] at h9
          exact Or.inr h9
/-- not more than there are places -/
theorem grS_most {F L : Nat → Int} {D b : Nat} : ∀ m R, cnB (slB (grS F L D b m R) b) D ≤ cnB (slB R b) D + m
  | 0, R => Nat.le_refl _
  | m + 1, R => by
    cases e : nxS F L R b D with
    | none =>
      have eg : grS F L D b (m + 1) R = R := by unfold grS; rw [e]
      rw [eg]
      omega
    | some j =>
      have eg : grS F L D b (m + 1) R = grS F L D b m (upd R j (nI b)) := by
        show (match nxS F L R b D with | none => R | some j => grS F L D b m (upd R j (nI b))) = _
        rw [e]
      obtain ⟨j1, j2, j3⟩ := nxS_some D j e
      have ih := grS_most (F := F) (L := L) (D := D) (b := b) m (upd R j (nI b))
      rw [eg]
      have h2 : cnB (slB (upd R j (nI b)) b) D ≤ cnB (slB R b) D + 1 := by
        by_cases c : R j = nI b
        · refine Nat.le_trans (cnB_le D fun k _ hk => ?_) (Nat.le_succ _)
          unfold slB at hk ⊢
          by_cases c2 : k = j
          · rw [c2]
            exact decide_eq_true c
          · rw [upd_ne _ _ c2] at hk
            exact hk
        · have := cnB_one (p := slB R b) (q := slB (upd R j (nI b)) b) (x := j) (decide_eq_false c) (decide_eq_true (upd_at _ _ _)) D j1 (fun k _ hk => by
            unfold slB
            rw [upd_ne _ _ hk])
          omega
      omega
/-- a round that leaves one that could have it is full of such as must be baked no later -/
theorem grS_full {F L : Nat → Int} {D b : Nat} (hb : b < 2000000000) {k : Nat} (hk : k < D) (h1 : F k ≤ b) (h2 : (b : Int) ≤ L k) : ∀ m R, grS F L D b m R k = -1 → cnB (slLB L R b (L k)) D + m ≤ cnB (slLB L (grS F L D b m R) b (L k)) D
  | 0, R, _ => Nat.le_refl _
  | m + 1, R, h => by
    cases e : nxS F L R b D with
    | none =>
      have eg : grS F L D b (m + 1) R = R := by unfold grS; rw [e]
      rw [eg] at h
      exact absurd ⟨h, h1, h2⟩ ((nxS_none D).mpr e k hk)
    | some j =>
      have eg : grS F L D b (m + 1) R = grS F L D b m (upd R j (nI b)) := by
        show (match nxS F L R b D with | none => R | some j => grS F L D b m (upd R j (nI b))) = _
        rw [e]
      obtain ⟨j1, j2, j3⟩ := nxS_some D j e
      rw [eg] at h ⊢
      have ih := grS_full (F := F) (L := L) (D := D) (b := b) hb hk h1 h2 m (upd R j (nI b)) h
      have hRk : R k = -1 := by
        by_cases c : R k = -1
        · exact c
        · exfalso
          rcases grS_val (F := F) (L := L) (D := D) (b := b) m (upd R j (nI b)) k with h9 | h9
          · by_cases c2 : k = j
            · rw [c2] at c
              exact c j2.1
            · rw [h, upd_ne _ _ c2] at h9
              exact c h9.symm
          · rw [h] at h9
            exact nIm1 hb h9.2.2.1.symm
      have hjk : L j ≤ L k := j3 k hk ⟨hRk, h1, h2⟩
      have hj1 : ¬ R j = nI b := fun h9 => nIm1 hb (h9.symm.trans j2.1)
      have := cnB_one (p := slLB L R b (L k)) (q := slLB L (upd R j (nI b)) b (L k)) (x := j) (decide_eq_false (fun h9 => hj1 h9.1)) (decide_eq_true ⟨upd_at _ _ _, hjk⟩) D j1 (fun i _ hi => by
        unfold slLB
        rw [upd_ne _ _ hi])
      omega
/-- what the plan gives -/
theorem rnS_val {F L : Nat → Int} {D m b0 : Nat} : ∀ j k, rnS F L D m b0 j k = -1 ∨ ∃ t, t < j ∧ k < D ∧ rnS F L D m b0 j k = nI (b0 + 10 * t) ∧ F k ≤ ((b0 + 10 * t : Nat) : Int) ∧ ((b0 + 10 * t : Nat) : Int) ≤ L k
  | 0, k => Or.inl rfl
  | j + 1, k => by
    rcases grS_val (F := F) (L := L) (D := D) (b := b0 + 10 * j) m (rnS F L D m b0 j) k with h9 | h9
    · rcases rnS_val (F := F) (L := L) (D := D) (m := m) (b0 := b0) j k with h8 | ⟨t, h1, h2, h3, h4, h5⟩
      · exact Or.inl (h9.trans h8)
      · exact Or.inr ⟨t, by omega, h2, h9.trans h3, h4, h5⟩
    · exact Or.inr ⟨j, by omega, h9.2.1, h9.2.2.1, h9.2.2.2.1, h9.2.2.2.2⟩
theorem rnS_most {F L : Nat → Int} {D m b0 : Nat} (hb : b0 < 1000000) (t : Nat) (ht : t < 100) : ∀ j, j ≤ 100 → cnB (slB (rnS F L D m b0 j) (b0 + 10 * t)) D ≤ m
  | 0, _ => by
    have z : cnB (slB (rnS F L D m b0 0) (b0 + 10 * t)) D = 0 := cnB_zero D (fun k _ => decide_eq_false (fun h9 => nIm1 (b := b0 + 10 * t) (by omega) (show nI (b0 + 10 * t) = -1 from Eq.symm h9)))
    rw [z]
    exact Nat.zero_le _
  | j + 1, hj => by
    have ih := rnS_most (F := F) (L := L) (D := D) (m := m) hb t ht j (by omega)
    by_cases c : t = j
    · subst c
      have h0 : cnB (slB (rnS F L D m b0 t) (b0 + 10 * t)) D = 0 := cnB_zero D (fun k _ => decide_eq_false (fun h9 => by
        rcases rnS_val (F := F) (L := L) (D := D) (m := m) (b0 := b0) t k with h8 | ⟨i, h1, h2, h3, h4, h5⟩
        · exact nIm1 (b := b0 + 10 * t) (by omega) (h9.symm.trans h8)
        · have := (nI_eq (a := b0 + 10 * t) (b := b0 + 10 * i) (by omega) (by omega)).mp (h9.symm.trans h3)
          omega))
      have := grS_most (F := F) (L := L) (D := D) (b := b0 + 10 * t) m (rnS F L D m b0 t)
      rw [h0] at this
      show cnB (slB (grS F L D (b0 + 10 * t) m (rnS F L D m b0 t)) (b0 + 10 * t)) D ≤ m
      omega
    · refine Nat.le_trans (cnB_le D fun k _ hk => ?_) ih
      have hk := of_decide_eq_true hk
      refine decide_eq_true ?_
      rcases grS_val (F := F) (L := L) (D := D) (b := b0 + 10 * j) m (rnS F L D m b0 j) k with h9 | h9
      · exact h9.symm.trans hk
      · have := (nI_eq (a := b0 + 10 * j) (b := b0 + 10 * t) (by omega) (by omega)).mp (h9.2.2.1.symm.trans hk)
        omega
/-- a slot before which one is left waiting is full -/
theorem rnS_full {F L : Nat → Int} {D m b0 : Nat} (hb : b0 < 1000000) {k t : Nat} (ht : t < 40) (hk : k < D) (h : rnS F L D m b0 (t + 1) k = -1) (h1 : F k ≤ ((b0 + 10 * t : Nat) : Int)) (h2 : ((b0 + 10 * t : Nat) : Int) ≤ L k) : m ≤ cnB (slLB L (rnS F L D m b0 40) (b0 + 10 * t) (L k)) D := by
  have g := grS_full (F := F) (L := L) (D := D) (b := b0 + 10 * t) (by omega) hk h1 h2 m (rnS F L D m b0 t) h
  refine Nat.le_trans (Nat.le_trans (Nat.le_add_left _ _) g) (cnB_le D fun i hi h9 => ?_)
  have h9 := of_decide_eq_true h9
  have e : rnS F L D m b0 (t + 1) i = nI (b0 + 10 * t) := h9.1
  have mo := rnS_mono (F := F) (L := L) (D := D) (m := m) hb (t + 1) (40 - (t + 1)) (by omega) i (by rw [e]; exact nIm1 (by omega))
  rw [show t + 1 + (40 - (t + 1)) = 40 by omega] at mo
  exact decide_eq_true ⟨mo.trans e, h9.2⟩
theorem cnB_add {p q r : Nat → Bool} : ∀ n, (∀ k, k < n → p k = true → r k = true ∧ q k = false) → (∀ k, k < n → q k = true → r k = true) → cnB p n + cnB q n ≤ cnB r n
  | 0, _, _ => Nat.le_refl _
  | n + 1, h1, h2 => by
    have ih := cnB_add n (fun k hk => h1 k (by omega)) (fun k hk => h2 k (by omega))
    unfold cnB
    cases hp : p n with
    | true =>
      obtain ⟨c1, c2⟩ := h1 n (by omega) hp
      rw [c1, c2, if_pos rfl, if_neg (by decide)]
      omega
    | false =>
      rw [if_neg (by decide)]
      cases hq : q n with
      | true =>
        rw [h2 n (by omega) hq, if_pos rfl]
        omega
      | false =>
        rw [if_neg (by decide)]
        omega
/-- the doughs of some rounds, that must be baked by z -/
def rgB (L : Nat → Int) (R : Nat → Int32) (b0 u : Nat) (z : Int) : Nat → Nat → Bool
  | 0, _ => false
  | d + 1, k => rgB L R b0 u z d k || slLB L R (b0 + 10 * (u + d)) z k
theorem rgB_of {L : Nat → Int} {R : Nat → Int32} {b0 u : Nat} {z : Int} {k : Nat} : ∀ d, rgB L R b0 u z d k = true → ∃ t, u ≤ t ∧ t < u + d ∧ R k = nI (b0 + 10 * t) ∧ L k ≤ z
  | 0, h => absurd (show false = true from h) (by decide)
  | d + 1, h => by
    have h : (rgB L R b0 u z d k || slLB L R (b0 + 10 * (u + d)) z k) = true := h
    rw [Bool.or_eq_true] at h
    rcases h with h | h
    · obtain ⟨t, h1, h2, h3⟩ := rgB_of d h
      exact ⟨t, h1, by omega, h3⟩
    · have h := of_decide_eq_true h
      exact ⟨u + d, by omega, by omega, h⟩
theorem rgB_cn {L : Nat → Int} {R : Nat → Int32} {b0 u m D : Nat} {z : Int} (hb : b0 < 1000000) : ∀ d, u + d ≤ 40 → (∀ t, u ≤ t → t < u + d → m ≤ cnB (slLB L R (b0 + 10 * t) z) D) → m * d ≤ cnB (rgB L R b0 u z d) D
  | 0, _, _ => Nat.zero_le _
  | d + 1, hd, h => by
    have ih := rgB_cn hb d (by omega) (fun t h1 h2 => h t h1 (by omega))
    have h2 := h (u + d) (by omega) (by omega)
    have h3 := cnB_add (p := rgB L R b0 u z d) (q := slLB L R (b0 + 10 * (u + d)) z) (r := rgB L R b0 u z (d + 1)) D (fun k _ hk => by
      obtain ⟨t, g1, g2, g3, g4⟩ := rgB_of d hk
      refine ⟨?_, decide_eq_false fun h9 => ?_⟩
      · show (rgB L R b0 u z d k || slLB L R (b0 + 10 * (u + d)) z k) = true
        rw [hk]
        rfl
      · have := (nI_eq (a := b0 + 10 * t) (b := b0 + 10 * (u + d)) (by omega) (by omega)).mp (g3.symm.trans h9.1)
        omega) (fun k _ hk => by
      show (rgB L R b0 u z d k || slLB L R (b0 + 10 * (u + d)) z k) = true
      rw [hk, Bool.or_true])
    have e : m * (d + 1) = m * d + m := Nat.mul_succ m d
    omega
theorem last_not {Q : Nat → Prop} : ∀ n, ∃ u, u ≤ n ∧ (∀ t, u ≤ t → t < n → Q t) ∧ (u = 0 ∨ ∃ v, u = v + 1 ∧ ¬ Q v)
  | 0 => ⟨0, Nat.le_refl _, fun t _ h => absurd h (Nat.not_lt_zero _), Or.inl rfl⟩
  | n + 1 => by
    by_cases c : Q n
    · obtain ⟨u, h1, h2, h3⟩ := last_not (Q := Q) n
      refine ⟨u, by omega, fun t g1 g2 => ?_, h3⟩
      by_cases c2 : t = n
      · rw [c2]
        exact c
      · exact h2 t g1 (by omega)
    · exact ⟨n + 1, Nat.le_refl _, fun t g1 g2 => by omega, Or.inr ⟨n, rfl, c⟩⟩
theorem least_of {F : Nat → Int} {S : Nat → Prop} : ∀ D, (∃ k, k < D ∧ S k) → ∃ a, a < D ∧ S a ∧ ∀ k, k < D → S k → F a ≤ F k
  | 0, ⟨k, h, _⟩ => absurd h (Nat.not_lt_zero _)
  | D + 1, ⟨k, h1, h2⟩ => by
    by_cases c : ∃ k, k < D ∧ S k
    · obtain ⟨a, g1, g2, g3⟩ := least_of (F := F) (S := S) D c
      by_cases c2 : S D ∧ F D < F a
      · refine ⟨D, Nat.lt_succ_self _, c2.1, fun i hi hs => ?_⟩
        by_cases c3 : i = D
        · rw [c3]
          exact Int.le_refl _
        · have := g3 i (by omega) hs
          omega
      · refine ⟨a, by omega, g2, fun i hi hs => ?_⟩
        by_cases c3 : i = D
        · rw [c3] at hs ⊢
          by_cases c4 : F D < F a
          · exact absurd ⟨hs, c4⟩ c2
          · omega
        · exact g3 i (by omega) hs
    · refine ⟨k, h1, h2, fun i hi hs => ?_⟩
      have e : ∀ i, i < D + 1 → S i → i = D := fun i hi hs => by
        by_cases c3 : i = D
        · exact c3
        · exact absurd ⟨i, by omega, hs⟩ c
      rw [e i hi hs, e k h1 h2]
      exact Int.le_refl _
/-- the doughs that must be baked between two ticks -/
def tgB (F L : Nat → Int) (y z : Int) (k : Nat) : Bool := decide (F k ≤ L k ∧ y ≤ F k ∧ L k ≤ z)
theorem pl_crowd {F L : Nat → Int} {D m b0 T : Nat} (hD : D ≤ 20) (hm : 1 ≤ m) (hb : b0 < 200000) (hT : T ≤ b0) (hT2 : b0 < T + 10) (h10 : b0 % 10 = 0) (hF : ∀ k, k < D → (T : Int) ≤ F k) (hL : ∀ k, k < D → L k ≤ (T : Int) + 200 ∨ (L k = 1000000 ∧ F k = (T : Int))) {x : Nat} (hx : x < D) (hP : F x ≤ L x) (hR : rnS F L D m b0 40 x = -1) : ∃ a w : Nat, a < D ∧ F a ≤ L a ∧ L x / 10 - (F a + 9) / 10 + 1 ≤ (w : Int) ∧ m * w < cnB (tgB F L (F a) (L x)) D := by
  have hb9 : b0 < 1000000 := by omega
  have en := rn_enough (F := F) (L := L) hD hm hb hT hL
  have lx : L x < ((b0 + 10 * 40 : Nat) : Int) := by
    by_cases c : ((b0 + 10 * 40 : Nat) : Int) ≤ L x
    · exact absurd ⟨x, hx, hP, hR, c⟩ en
    · omega
  have fx := hF x hx
  obtain ⟨lz, hlz⟩ : ∃ lz : Nat, L x = (lz : Int) := ⟨(L x).toNat, by omega⟩
  obtain ⟨jx, hj1, hj2, hj3⟩ : ∃ jx : Nat, jx ≤ 40 ∧ (∀ t, t < jx → ((b0 + 10 * t : Nat) : Int) ≤ L x) ∧ L x < ((b0 + 10 * jx : Nat) : Int) := by
    refine ⟨(lz + 10 - b0) / 10, by omega, fun t ht => by omega, by omega⟩
  obtain ⟨u, hu1, hu2, hu3⟩ := last_not (Q := fun t => m ≤ cnB (slLB L (rnS F L D m b0 40) (b0 + 10 * t) (L x)) D) jx
  have cn := rgB_cn (L := L) (R := rnS F L D m b0 40) (m := m) (D := D) (z := L x) hb9 (u := u) (jx - u) (by omega) (fun t h1 h2 => hu2 t h1 (by omega))
  have hS : ∀ k, k < D → (k = x ∨ rgB L (rnS F L D m b0 40) b0 u (L x) (jx - u) k = true) → F k ≤ L k ∧ L k ≤ L x ∧ ∀ v, u = v + 1 → ((b0 + 10 * v : Nat) : Int) + 1 ≤ F k := by
    intro k hk hs
    have q1 : F k ≤ L k ∧ L k ≤ L x ∧ (k = x ∨ ∃ t, u ≤ t ∧ t < 40 ∧ rnS F L D m b0 40 k = nI (b0 + 10 * t) ∧ ((b0 + 10 * t : Nat) : Int) ≤ L k) := by
      rcases hs with hs | hs
      · rw [hs]
        exact ⟨hP, Int.le_refl _, Or.inl rfl⟩
      · obtain ⟨t, g1, g2, g3, g4⟩ := rgB_of _ hs
        rcases rnS_val (F := F) (L := L) (D := D) (m := m) (b0 := b0) 40 k with h8 | ⟨i, h1, h2, h3, h4, h5⟩
        · exact absurd (g3.symm.trans h8) (nIm1 (by omega))
        · have e := (nI_eq (a := b0 + 10 * t) (b := b0 + 10 * i) (by omega) (by omega)).mp (g3.symm.trans h3)
          have e : t = i := by omega
          subst e
          exact ⟨by omega, g4, Or.inr ⟨t, g1, h1, g3, h5⟩⟩
    refine ⟨q1.1, q1.2.1, fun v hv => ?_⟩
    have nq : ¬ m ≤ cnB (slLB L (rnS F L D m b0 40) (b0 + 10 * v) (L x)) D := by
      rcases hu3 with h9 | ⟨v', h8, h9⟩
      · omega
      · have e : v' = v := by omega
        rw [← e]
        exact h9
    by_cases c : F k ≤ ((b0 + 10 * v : Nat) : Int)
    · exfalso
      have lk : ((b0 + 10 * v : Nat) : Int) ≤ L k := by
        rcases q1.2.2 with h9 | ⟨t, g1, g2, g3, g4⟩
        · rw [h9]
          exact hj2 v (by omega)
        · omega
      have un : rnS F L D m b0 (v + 1) k = -1 := by
        rcases rnS_val (F := F) (L := L) (D := D) (m := m) (b0 := b0) (v + 1) k with h8 | ⟨i, h1, h2, h3, h4, h5⟩
        · exact h8
        · exfalso
          have mo := rnS_mono (F := F) (L := L) (D := D) (m := m) hb9 (v + 1) (40 - (v + 1)) (by omega) k (by rw [h3]; exact nIm1 (by omega))
          rw [show v + 1 + (40 - (v + 1)) = 40 by omega, h3] at mo
          rcases q1.2.2 with h9 | ⟨t, g1, g2, g3, g4⟩
          · rw [h9, hR] at mo
            exact nIm1 (b := b0 + 10 * i) (by omega) mo.symm
          · have := (nI_eq (a := b0 + 10 * t) (b := b0 + 10 * i) (by omega) (by omega)).mp (g3.symm.trans mo)
            omega
      have fu := rnS_full (F := F) (L := L) (D := D) (m := m) hb9 (t := v) (by omega) hk un c lk
      refine nq (Nat.le_trans fu (cnB_le D fun i _ hi => ?_))
      have hi := of_decide_eq_true hi
      exact decide_eq_true ⟨hi.1, Int.le_trans hi.2 q1.2.1⟩
    · omega
  obtain ⟨a, ha1, ha2, ha3⟩ := least_of (F := F) (S := fun k => k = x ∨ rgB L (rnS F L D m b0 40) b0 u (L x) (jx - u) k = true) D ⟨x, hx, Or.inl rfl⟩
  obtain ⟨q1, q2, q3⟩ := hS a ha1 ha2
  have fa := hF a ha1
  refine ⟨a, jx - u, ha1, q1, ?_, ?_⟩
  · rcases hu3 with h9 | ⟨v, h8, _⟩
    · subst h9
      omega
    · have := q3 v h8
      omega
  · have px : rgB L (rnS F L D m b0 40) b0 u (L x) (jx - u) x = false := by
      cases c : rgB L (rnS F L D m b0 40) b0 u (L x) (jx - u) x with
      | false => rfl
      | true =>
        obtain ⟨t, g1, g2, g3, g4⟩ := rgB_of _ c
        exact absurd (g3.symm.trans hR) (nIm1 (by omega))
    have := cnB_lt (p := rgB L (rnS F L D m b0 40) b0 u (L x) (jx - u)) (q := tgB F L (F a) (L x)) hx px (decide_eq_true ⟨hP, ha3 x hx (Or.inl rfl), Int.le_refl _⟩) (fun k hk hk2 => by
      obtain ⟨p1, p2, _⟩ := hS k hk (Or.inr hk2)
      exact decide_eq_true ⟨p1, ha3 k hk (Or.inr hk2), p2⟩)
    omega
