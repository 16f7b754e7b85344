/-! ===== ROWS IN THEIR ORDER: the model's row, the first of the least ===== -/
theorem gl_set (l : List Nat) (i v p : Nat) (hi : i < l.length) : gl (l.set i v) p = if p = i then v else gl l p := by
  unfold gl
  rw [List.getD_eq_getElem?_getD, List.getD_eq_getElem?_getD, List.getElem?_set]
  by_cases e : p = i
  · rw [if_pos e, if_pos e.symm, if_pos hi]; rfl
  · rw [if_neg e, if_neg (fun h9 => e h9.symm)]
theorem sw_len (l : List Nat) (i j : Nat) : (sw l i j).length = l.length := by
  unfold sw
  rw [List.length_set, List.length_set]
theorem gl_sw (l : List Nat) {i j : Nat} (hi : i < l.length) (hj : j < l.length) (p : Nat) : gl (sw l i j) p = if p = j then gl l i else if p = i then gl l j else gl l p := by
  unfold sw
  rw [gl_set _ _ _ _ (by rw [List.length_set]; exact hj), gl_set _ _ _ _ hi]
theorem rv_len : ∀ m l i j, (rv m l i j).length = l.length
  | 0, _, _, _ => rfl
  | m + 1, l, i, j => by
    unfold rv
    by_cases c : i < j
    · rw [if_pos c, rv_len m, sw_len]
    · rw [if_neg c]
theorem fk_lt {l : List Nat} : ∀ n k, fk l n = some k → k < n ∧ ¬ gl l (k + 1) < gl l k
  | 0, _, h => nomatch h
  | n + 1, k, h => by
    unfold fk at h
    by_cases c : gl l (n + 1) < gl l n
    · rw [if_pos c] at h
      have := fk_lt n k h
      exact ⟨by omega, this.2⟩
    · rw [if_neg c] at h
      cases h
      exact ⟨by omega, c⟩
theorem fo_b {l : List Nat} {x k : Nat} (hk : ¬ gl l (k + 1) < x) : ∀ o, k + 1 ≤ o → k + 1 ≤ fo l x o ∧ fo l x o ≤ o
  | 0, h => by omega
  | o + 1, h => by
    unfold fo
    by_cases c : gl l (o + 1) < x
    · rw [if_pos c]
      have hne : o ≠ k := fun e => hk (by rw [← e]; exact c)
      have := fo_b hk o (by omega)
      omega
    · rw [if_neg c]; omega
/-! the model's row -/
def rowIs (σ : xSt) (l : List Nat) : Prop := l.length ≤ 7 ∧ σ 0 18 = nI l.length ∧ ∀ k, k < l.length → gl l k < 8 ∧ σ 11 k = nI (gl l k)
theorem rowIs.frame {σ σ' : xSt} {l : List Nat} (h : rowIs σ l) (h1 : σ' 0 18 = σ 0 18) (h2 : σ' 11 = σ 11) : rowIs σ' l := by
  unfold rowIs at h ⊢
  rw [h1, h2]
  exact h
def fW (σ σ' : xSt) : Prop := (∀ q, q ≠ 11 → σ' q = σ q)
/-! the first of the least -/
def stB (b : Option (Int × List Nat)) (e : Option Int) (w : List Nat) : Option (Int × List Nat) := match e with
  | none => b
  | some e => match b with
    | none => some (e, w)
    | some (e0, w0) => if e < e0 then some (e, w) else some (e0, w0)
def bs (run : List Nat → Option Int) (pre : List Nat) : Option (Int × List Nat) → List (List Nat) → Option (Int × List Nat)
  | b, [] => b
  | b, c :: t => bs run pre (stB b (run c) (pre ++ c)) t
theorem bs_append (run : List Nat → Option Int) (pre : List Nat) : ∀ (L1 L2 : List (List Nat)) (b : Option (Int × List Nat)), bs run pre b (L1 ++ L2) = bs run pre (bs run pre b L1) L2
  | [], _, _ => rfl
  | c :: t, L2, b => bs_append run pre t L2 _
theorem bs_none {run : List Nat → Option Int} {pre : List Nat} : ∀ (L : List (List Nat)) (b : Option (Int × List Nat)), (∀ c, c ∈ L → run c = none) → bs run pre b L = b
  | [], _, _ => rfl
  | c :: t, b, h => by
    show bs run pre (stB b (run c) (pre ++ c)) t = b
    rw [h c List.mem_cons_self]
    exact bs_none t b (fun c hc => h c (List.mem_cons_of_mem _ hc))
theorem bs_map (run : List Nat → Option Int) (pre : List Nat) (a : Nat) : ∀ (L : List (List Nat)) (b : Option (Int × List Nat)), bs run pre b (L.map (fun c => a :: c)) = bs (fun c => run (a :: c)) (pre ++ [a]) b L
  | [], _ => rfl
  | c :: t, b => by
    show bs run pre (stB b (run (a :: c)) (pre ++ a :: c)) (t.map (fun c => a :: c)) = bs (fun c => run (a :: c)) (pre ++ [a]) (stB b (run (a :: c)) (pre ++ [a] ++ c)) t
    rw [bs_map run pre a t, List.append_assoc]
    rfl
/-- what cannot be better changes nothing -/
theorem bs_prune {run : List Nat → Option Int} {pre : List Nat} {e0 : Int} {w0 : List Nat} : ∀ (L : List (List Nat)), (∀ c e, c ∈ L → run c = some e → e0 ≤ e) → bs run pre (some (e0, w0)) L = some (e0, w0)
  | [], _ => rfl
  | c :: t, h => by
    have e : stB (some (e0, w0)) (run c) (pre ++ c) = some (e0, w0) := by
      cases hr : run c with
      | none => rfl
      | some e =>
        have := h c e List.mem_cons_self hr
        show (if e < e0 then some (e, pre ++ c) else some (e0, w0)) = _
        rw [if_neg (by omega)]
    show bs run pre (stB (some (e0, w0)) (run c) (pre ++ c)) t = _
    rw [e]
    exact bs_prune t (fun c e hc => h c e (List.mem_cons_of_mem _ hc))
theorem bs_congr {run run' : List Nat → Option Int} {pre : List Nat} : ∀ (L : List (List Nat)) (b : Option (Int × List Nat)), (∀ c, c ∈ L → run c = run' c) → bs run pre b L = bs run' pre b L
  | [], _, _ => rfl
  | c :: t, b, h => by
    show bs run pre (stB b (run c) (pre ++ c)) t = bs run' pre (stB b (run' c) (pre ++ c)) t
    rw [h c List.mem_cons_self]
    exact bs_congr t _ (fun c hc => h c (List.mem_cons_of_mem _ hc))
