/-! isMixed: no mix costs less than the class's -/
def d3 (s : sS) (i j k : Nat) : Nat → Int := fun f => (stI s j - stI s k) * d2 i j f + (stI s i - stI s j) * d2 k j f
theorem vx_main {s : sS} {lo hi : Int} : ∀ (n : Nat) (x : Nat → Int) (t : Int), fG s lo hi x t → 10 ≤ nt s lo hi x t + n → ∃ c, TC s lo hi c ∧ feas s lo hi c ∧ W4 (ctI s) c.1 * t ≤ W4 (ctI s) x * c.2 := by
  intro n
  induction n with
  | zero =>
    intro x t hf hn
    have full : ∀ x' t', ¬ nt s lo hi x t < nt s lo hi x' t' := fun x' t' h9 => by
      have : nt s lo hi x' t' ≤ 10 := cnB_all _ _
      omega
    by_cases C : ∃ f, f < 4 ∧ fr s x t f
    · exfalso
      obtain ⟨f, f1, f2⟩ := C
      have ge : nt s lo hi x t = 10 := by
        have : nt s lo hi x t ≤ 10 := cnB_all _ _
        omega
      have lt := cnB_lt (p := fun k => decide (Gk s lo hi k x t = 0)) (q := fun _ => true) (x := f) (n := 10) (by omega) (decide_eq_false (fun h9 => f2.1 (by
        have e : Gk s lo hi f x t = x f := if_pos f1
        rw [e] at h9
        exact h9))) rfl (fun _ _ _ => rfl)
      have : cnB (fun _ => true) 10 ≤ 10 := cnB_all _ _
      have ge : cnB (fun k => decide (Gk s lo hi k x t = 0)) 10 = 10 := ge
      omega
    · exact vx_one (i := 0) hf (by omega) (fun f f1 _ h9 => C ⟨f, f1, h9⟩)
  | succ n ih =>
    intro x t hf hn
    have step : (∃ d : Nat → Int, W4 one4 d = 0 ∧ (∃ f, f < 4 ∧ d f ≠ 0) ∧ ∀ k, k < 10 → Gk s lo hi k x t = 0 → Gk s lo hi k d 0 = 0) → ∃ c, TC s lo hi c ∧ feas s lo hi c ∧ W4 (ctI s) c.1 * t ≤ W4 (ctI s) x * c.2 := by
      intro ⟨d, d1, d2, d3⟩
      obtain ⟨x', t', g1, g2, g3⟩ := vx_way hf d1 d2 d3
      obtain ⟨c, c1, c2, c3⟩ := ih x' t' g1 (by omega)
      exact ⟨c, c1, c2, crLe c2.1 g1.1 hf.1 c3 g2⟩
    by_cases A : ∃ i j, i < 4 ∧ j < 4 ∧ i ≠ j ∧ fr s x t i ∧ fr s x t j ∧ (stI s i = stI s j ∨ ¬ (Gk s lo hi 8 x t = 0 ∨ Gk s lo hi 9 x t = 0))
    · obtain ⟨i, j, i1, j1, ij, fi, fj, h⟩ := A
      refine step ⟨d2 i j, ?_, ⟨i, i1, by rw [d2_i ij]; omega⟩, way_ok (fun f f1 f2 => d2_0 (fun e => f2 (by rw [e]; exact fi)) (fun e => f2 (by rw [e]; exact fj))) (fun h9 => ?_)⟩
      · rw [W4_d2 one4 i1 j1]
        show (1 : Int) - 1 = 0
        omega
      · rw [W4_d2 (stI s) i1 j1]
        rcases h with h | h
        · omega
        · exact absurd h9 h
    · by_cases B : ∃ i j k, i < 4 ∧ j < 4 ∧ k < 4 ∧ i ≠ j ∧ j ≠ k ∧ i ≠ k ∧ fr s x t i ∧ fr s x t j ∧ fr s x t k
      · obtain ⟨i, j, k, i1, j1, k1, ij, jk, ik, fi, fj, fk⟩ := B
        refine step ⟨d3 s i j k, ?_, ⟨i, i1, ?_⟩, way_ok (fun f f1 f2 => ?_) (fun _ => ?_)⟩
        · unfold d3
          rw [W4_lin, W4_d2 one4 i1 j1, W4_d2 one4 k1 j1]
          show (stI s j - stI s k) * (1 - 1) + (stI s i - stI s j) * (1 - 1) = 0
          rw [Int.sub_self, Int.mul_zero, Int.mul_zero]
          rfl
        · unfold d3
          rw [d2_i ij, d2_0 ik ij, Int.mul_zero]
          intro h9
          exact A ⟨j, k, j1, k1, jk, fj, fk, Or.inl (by omega)⟩
        · have e1 : d2 i j f = 0 := d2_0 (fun e => f2 (by rw [e]; exact fi)) (fun e => f2 (by rw [e]; exact fj))
          have e2 : d2 k j f = 0 := d2_0 (fun e => f2 (by rw [e]; exact fk)) (fun e => f2 (by rw [e]; exact fj))
          unfold d3
          rw [e1, e2, Int.mul_zero, Int.mul_zero]
          rfl
        · unfold d3
          rw [W4_lin, W4_d2 (stI s) i1 j1, W4_d2 (stI s) k1 j1]
          grind
      · by_cases C : ∃ i j, i < 4 ∧ j < 4 ∧ i ≠ j ∧ fr s x t i ∧ fr s x t j
        · have key : ∀ i j, i < 4 → j < 4 → i ≠ j → fr s x t i → fr s x t j → stI s j < stI s i → ∃ c, TC s lo hi c ∧ feas s lo hi c ∧ W4 (ctI s) c.1 * t ≤ W4 (ctI s) x * c.2 := by
            intro i j i1 j1 ij fi fj hl
            have nf : ∀ f, f < 4 → f ≠ i → f ≠ j → ¬ fr s x t f := fun f f1 n1 n2 ff => B ⟨i, j, f, i1, j1, f1, ij, fun e => n2 e.symm, fun e => n1 e.symm, fi, fj, ff⟩
            by_cases tl : Gk s lo hi 8 x t = 0
            · have e8 : Gk s lo hi 8 x t = W4 (stI s) x - 100 * lo * t := by
                unfold Gk
                rw [if_neg (by omega), if_neg (by omega), if_pos rfl]
              exact vx_two hf i1 j1 hl nf (Or.inl rfl) (by omega)
            · by_cases th : Gk s lo hi 9 x t = 0
              · have e9 : Gk s lo hi 9 x t = 100 * hi * t - W4 (stI s) x := by
                  unfold Gk
                  rw [if_neg (by omega), if_neg (by omega), if_neg (by omega)]
                exact vx_two hf i1 j1 hl nf (Or.inr rfl) (by omega)
              · exact absurd ⟨i, j, i1, j1, ij, fi, fj, Or.inr (fun h9 => h9.elim tl th)⟩ A
          obtain ⟨i, j, i1, j1, ij, fi, fj⟩ := C
          by_cases l1 : stI s j < stI s i
          · exact key i j i1 j1 ij fi fj l1
          · by_cases l2 : stI s i < stI s j
            · exact key j i j1 i1 (fun e => ij e.symm) fj fi l2
            · exact absurd ⟨i, j, i1, j1, ij, fi, fj, Or.inl (by omega)⟩ A
        · by_cases D : ∃ i, i < 4 ∧ fr s x t i
          · obtain ⟨i, i1, fi⟩ := D
            exact vx_one hf i1 (fun f f1 n1 ff => C ⟨i, f, i1, f1, fun e => n1 e.symm, fi, ff⟩)
          · exact vx_one (i := 0) hf (by omega) (fun f f1 _ h9 => D ⟨f, f1, h9⟩)
/-- against the class's best -/
theorem mix_none {s : sS} {lo hi : Int} (hM : Mn s lo hi (TC s lo hi) none) (c : Cd) : ¬ feas s lo hi c := fun hf => by
  obtain ⟨v, v1, v2, _⟩ := vx_main 10 c.1 c.2 (fG_of hf) (by omega)
  exact hM v v1 v2
theorem mix_least {s : sS} {lo hi : Int} {b : Cd} (hM : Mn s lo hi (TC s lo hi) (some b)) {c : Cd} (hf : feas s lo hi c) : keyC s b 0 * c.2 ≤ keyC s c 0 * b.2 := by
  obtain ⟨v, v1, v2, v3⟩ := vx_main 10 c.1 c.2 (fG_of hf) (by omega)
  have n := hM.2.2 v v1 v2
  have k0 : keyC s v 0 * c.2 ≤ keyC s c 0 * v.2 := v3
  have k1 : keyC s b 0 * v.2 ≤ keyC s v 0 * b.2 := by
    by_cases g : keyC s v 0 * b.2 < keyC s b 0 * v.2
    · exact absurd ⟨0, by omega, fun j hj => absurd hj (Nat.not_lt_zero _), g⟩ n
    · omega
  exact crLe hM.2.1.1 v2.1 hf.1 k1 k0
