/-! ===== THE ROW OF DOUGHS: the model, and both ===== -/
theorem okT_iff {V : Nat} {l : List Nat} (h : okT V l = true) : l.length = (remS V).length ∧ ∀ k, k < l.length → gl l k < 6 ∧ bV V (gl l k) = true := by
  unfold okT at h
  rw [Bool.and_eq_true] at h
  have h2 := List.all_eq_true.mp h.2
  refine ⟨eq_of_beq h.1, fun k hk => ?_⟩
  have g := h2 _ (gl_mem hk)
  rw [Bool.and_eq_true] at g
  exact ⟨of_decide_eq_true g.1, g.2⟩
theorem rowIs_app {σ : xSt} {l : List Nat} (h : rowIs σ l) (h6 : l.length ≤ 6) {a : Nat} (ha : a < 8) : rowIs (xu (xu σ 11 l.length (nI a)) 0 18 (nI (l.length + 1))) (l ++ [a]) := by
  obtain ⟨-, h18, hk⟩ := h
  have l1 : (l ++ [a]).length = l.length + 1 := by rw [List.length_append, List.length_singleton]
  refine ⟨by omega, by rw [xu_at, upd_at, l1], fun k hk2 => ?_⟩
  rw [l1] at hk2
  rw [gl_app, xu_ne _ _ _ (by decide), xu_at]
  by_cases e : k = l.length
  · rw [if_neg (by omega), if_pos e, e, upd_at]; exact ⟨ha, rfl⟩
  · rw [if_pos (by omega), upd_ne _ _ e]; exact hk k (by omega)
/-- there is always a row -/
theorem bs_some {run : List Nat → Option Int} {pre : List Nat} (hrun : ∀ c, run c ≠ none) : ∀ (L : List (List Nat)) (b : Option (Int × List Nat)), (b ≠ none ∨ L ≠ []) → bs run pre b L ≠ none
  | [], b, h => by
    rcases h with h | h
    · exact h
    · exact absurd rfl h
  | c :: t, b, _ => by
    refine bs_some hrun t _ (Or.inl ?_)
    cases hr : run c with
    | none => exact absurd hr (hrun c)
    | some e =>
      cases b with
      | none => exact fun h9 => nomatch h9
      | some b =>
        obtain ⟨e0, w0⟩ := b
        show (if e < e0 then some (e, pre ++ c) else some (e0, w0)) ≠ none
        split
        · exact fun h9 => nomatch h9
        · exact fun h9 => nomatch h9
theorem runP_some (s : sS) : ∀ (l : List Nat) (f : Nat) (m : Int), runP s f m l ≠ none
  | [], _, _ => fun h9 => nomatch h9
  | a :: l, f, m => runP_some s l a (m + pc s f a)
theorem bestR_some (s : sS) {V : Nat} (hV : V < 64) : ∃ e p, bestR s V = some (e, p) := by
  have q4 := (chn_set V hV).2.2.2
  have h := bs_some (run := runP s 7 0) (pre := []) (fun c => runP_some s c 7 0) (prm (remS V).length (remS V)) none (Or.inr (fun h9 => by rw [h9] at q4; exact nomatch q4))
  unfold bestR
  cases hb : bs (runP s 7 0) [] none (prm (remS V).length (remS V)) with
  | none => exact absurd hb h
  | some b => exact ⟨b.1, b.2, rfl⟩
theorem set_of {N : Nat} {s : sS} (hI : Inv N s) {p0 : Int32} (h : 0 ≤ p0 ∧ p0 ≤ ((1 : Int32) <<< ((s 5) &&& 31)) - 1) : ∃ V, V < 64 ∧ p0 = nI V ∧ ∀ a, a < 6 → bV V a = true → a < cR s := by
  have h6 := hI.caps.1
  have e5 : s 5 = nI (cR s) := hI.caps.2.2.2.2.2.1
  obtain ⟨c1, c2, c3, c4⟩ := cV_full (cR s) (by omega)
  obtain ⟨d1, d2⟩ := set_lt (cR s) (by omega)
  have hp := Nat.two_pow_pos (cR s)
  rw [e5, c3, fa_le, fa_le, nI_toInt (by omega)] at h
  have h0 : (0 : Int) ≤ p0.toInt := h.1
  refine ⟨p0.toInt.toNat, by omega, nI_ofZ rfl h0, d2 _ (by omega)⟩