/-! ===== ROWS IN THEIR ORDER: the model's row, the first of the least ===== -/
theorem gl_set (l : List Nat) (i v p : Nat) (hi : i < l.length) : gl (l.set i v) p = if p = i then v else gl l p := by
  unfold gl
  rw [List.getD_eq_getElem?_getD, List.getD_eq_getElem?_getD, List.getElem?_set]
  by_cases e : p = i
  · rw [if_pos e, if_pos e.symm, if_pos hi]; rfl
  · rw [if_neg e, if_neg (fun h9 => e h9.symm)]
theorem sw_len (l : List Nat) (i j : Nat) : (sw l i j).length = l.length := by
  unfold sw
  rw [List.length_set, List.length_set]
theorem gl_sw (l : List Nat) {i j : Nat} (hi : i < l.length) (hj : j < l.length) (p : Nat) : gl (sw l i j) p = if p = j then gl l i else if p = i then gl l j else gl l p := by
  unfold sw
  rw [gl_set _ _ _ _ (by rw [List.length_set]; exact hj), gl_set _ _ _ _ hi]
theorem rv_len : ∀ m l i j, (rv m l i j).length = l.length
  | 0, _, _, _ => rfl
  | m + 1, l, i, j => by
    unfold rv
    by_cases c : i < j
    · rw [if_pos c, rv_len m, sw_len]
    · rw [if_neg c]
theorem fk_lt {l : List Nat} : ∀ n k, fk l n = some k → k < n ∧ ¬ gl l (k + 1) < gl l k
  | 0, _, h => nomatch h
  | n + 1, k, h => by
    unfold fk at h
    by_cases c : gl l (n + 1) < gl l n
    · rw [if_pos c] at h
      have := fk_lt n k h
      exact ⟨by omega, this.2⟩
    · rw [if_neg c] at h
      cases h
      exact ⟨by omega, c⟩
theorem fo_b {l : List Nat} {x k : Nat} (hk : ¬ gl l (k + 1) < x) : ∀ o, k + 1 ≤ o → k + 1 ≤ fo l x o ∧ fo l x o ≤ o
  | 0, h => by omega
  | o + 1, h => by
    unfold fo
    by_cases c : gl l (o + 1) < x
    · rw [if_pos c]
      have hne : o ≠ k := fun e => hk (by rw [← e]; exact c)
      have := fo_b hk o (by omega)
      omega
    · rw [if_neg c]; omega
/-! the model's row -/
def rowIs (σ : xSt) (l : List Nat) : Prop := l.length ≤ 7 ∧ σ 0 18 = nI l.length ∧ ∀ k, k < l.length → gl l k < 8 ∧ σ 11 k = nI (gl l k)
theorem rowIs.frame {σ σ' : xSt} {l : List Nat} (h : rowIs σ l) (h1 : σ' 0 18 = σ 0 18) (h2 : σ' 11 = σ 11) : rowIs σ' l := by
  unfold rowIs at h ⊢
  rw [h1, h2]
  exact h
def fW (σ σ' : xSt) : Prop := (∀ q, q ≠ 11 → σ' q = σ q)
theorem M_swaps {σ : xSt} {l : List Nat} (h : rowIs σ l) {i j : Nat} (hi : i < l.length) (hj : j < l.length) : ∃ σ', fX12_swaps (nI i) (nI j) σ = some σ' ∧ rowIs σ' (sw l i j) ∧ ∀ q, q ≠ 11 → σ' q = σ q := by
  obtain ⟨h7, h18, hr⟩ := id h
  unfold fX12_swaps
  rw [xr_n (by omega) (by decide), xr_n (by omega) (by decide), xs_n (by omega) (by decide), xs_n (by omega) (by decide)]
  refine ⟨_, rfl, ⟨by rw [sw_len]; exact h7, by rw [sw_len, xu_ne _ _ _ (by decide), xu_ne _ _ _ (by decide)]; exact h18, fun k hk => ?_⟩, fun q hq => by rw [xu_ne _ _ _ hq, xu_ne _ _ _ hq]⟩
  rw [sw_len] at hk
  rw [gl_sw l hi hj, xu_at, xu_at]
  by_cases e : k = j
  · rw [if_pos e, e, upd_at]; exact hr i hi
  · rw [if_neg e, upd_ne _ _ e]
    by_cases e2 : k = i
    · rw [if_pos e2, e2, upd_at]; exact hr j hj
    · rw [if_neg e2, upd_ne _ _ e2]; exact hr k hk
theorem M_turns : ∀ (m i j n : Nat) (σ : xSt) (l : List Nat), rowIs σ l → j < l.length → j ≤ i + m → m < n → i ≤ 7 → ∃ σ', fX12_nextRow_c86 n (nI i) (nI j) σ = some (1, σ') ∧ rowIs σ' (rv m l i j) ∧ ∀ q, q ≠ 11 → σ' q = σ q := by
  intro m
  induction m with
  | zero =>
    intro i j n σ l h hj hm hn hi
    obtain ⟨n, rfl⟩ : ∃ z, n = z + 1 := ⟨n - 1, by omega⟩
    have h7 := h.1
    rw [fX12_nextRow_c86_s, if_pos (nI_le (by omega) (by omega))]
    exact ⟨σ, rfl, h, fun _ _ => rfl⟩
  | succ m ih =>
    intro i j n σ l h hj hm hn hi
    obtain ⟨n, rfl⟩ : ∃ z, n = z + 1 := ⟨n - 1, by omega⟩
    have h7 := h.1
    unfold rv
    by_cases c : i < j
    · rw [if_pos c, fX12_nextRow_c86_s, if_neg (nI_ge c (by omega))]
      obtain ⟨σ1, e1, e2, e3⟩ := M_swaps h (i := i) (j := j) (by omega) hj
      obtain ⟨σ2, g1, g2, g3⟩ := ih (i + 1) (j - 1) n σ1 (sw l i j) e2 (by rw [sw_len]; omega) (by omega) (by omega) (by omega)
      refine ⟨σ2, ?_, g2, fun q hq => (g3 q hq).trans (e3 q hq)⟩
      rw [e1, xc_t, xl_t, xl_t, nI_1, show (-1 : Int32) = -nI 1 from rfl, nI_addneg (by omega)]
      exact g1
    · rw [if_neg c, fX12_nextRow_c86_s, if_pos (nI_le (by omega) (by omega))]
      exact ⟨σ, rfl, h, fun _ _ => rfl⟩
theorem M_other {σ : xSt} {l : List Nat} (h : rowIs σ l) {k : Nat} (hk : k + 1 < l.length) (hk2 : ¬ gl l (k + 1) < gl l k) : ∀ (o n : Nat), k + 1 ≤ o → o < l.length → o < n → ∃ σ', fX12_nextRow_c47 n (nI k) (nI o) σ = some (1, σ') ∧ rowIs σ' (rv l.length (sw l k (fo l (gl l k) o)) (k + 1) (l.length - 1)) ∧ ∀ q, q ≠ 11 → σ' q = σ q := by
  obtain ⟨h7, h18, hr⟩ := id h
  intro o
  induction o with
  | zero => intro n h1 _ _; omega
  | succ o ih =>
    intro n h1 h2 hn
    obtain ⟨n, rfl⟩ : ∃ z, n = z + 1 := ⟨n - 1, by omega⟩
    obtain ⟨a1, a2⟩ := hr (o + 1) h2
    obtain ⟨b1, b2⟩ := hr k (by omega)
    rw [fX12_nextRow_c47_s, xr_n (by omega) (by decide), xr_n (by omega) (by decide), a2, b2]
    unfold fo
    by_cases c : gl l (o + 1) < gl l k
    · rw [if_pos c, if_neg (nI_ge c (by omega)), xl_t, show (-1 : Int32) = -nI 1 from rfl, nI_addneg (by omega)]
      have hne : o ≠ k := fun e => by rw [e] at c; exact hk2 c
      exact ih n (by omega) (by omega) (by omega)
    · rw [if_neg c, if_pos (nI_le (by omega) (by omega))]
      obtain ⟨σ1, e1, e2, e3⟩ := M_swaps h (i := k) (j := o + 1) (by omega) h2
      have e18 : σ1 0 18 = nI l.length := by rw [e3 0 (by decide)]; exact h18
      obtain ⟨σ2, g1, g2, g3⟩ := M_turns l.length (k + 1) (l.length - 1) xFU σ1 (sw l k (o + 1)) e2 (by rw [sw_len]; omega) (by omega) (by show _ < 8192; omega) (by omega)
      refine ⟨σ2, ?_, g2, fun q hq => (g3 q hq).trans (e3 q hq)⟩
      rw [e1, xc_t, xl_t, nI_1, e18, xl_t, show nI l.length - 1 = nI (l.length - 1) from by
        obtain ⟨z, hz⟩ : ∃ z, l.length = z + 1 := ⟨l.length - 1, by omega⟩
        rw [hz]; exact nI_pred z]
      exact g1
theorem M_turn {σ : xSt} {l : List Nat} (h : rowIs σ l) : ∀ (j n : Nat), j < l.length → j < n → (fk l j = none → fX12_nextRow_c7 n (nI j - 1) σ = some (0, σ)) ∧ (∀ k, fk l j = some k → ∃ σ', fX12_nextRow_c7 n (nI j - 1) σ = some (1, σ') ∧ rowIs σ' (rv l.length (sw l k (fo l (gl l k) (l.length - 1))) (k + 1) (l.length - 1)) ∧ ∀ q, q ≠ 11 → σ' q = σ q) := by
  obtain ⟨h7, h18, hr⟩ := id h
  intro j
  induction j with
  | zero =>
    intro n hj hn
    obtain ⟨n, rfl⟩ : ∃ z, n = z + 1 := ⟨n - 1, by omega⟩
    refine ⟨fun _ => ?_, fun k hk => nomatch hk⟩
    rw [fX12_nextRow_c7_s, if_pos (show nI 0 - 1 < 0 by decide)]
    unfold fX12_nextRow_c34
    rw [if_neg (show ¬ 0 ≤ nI 0 - 1 by decide)]
  | succ j ih =>
    intro n hj hn
    obtain ⟨n, rfl⟩ : ∃ z, n = z + 1 := ⟨n - 1, by omega⟩
    obtain ⟨a1, a2⟩ := hr (j + 1) hj
    obtain ⟨b1, b2⟩ := hr j (by omega)
    rw [show nI (j + 1) - 1 = nI j from nI_pred j, fX12_nextRow_c7_s, if_neg (show ¬ nI j < 0 from fun h9 => by rw [fa_lt, nI_toInt (by omega)] at h9; have h9 : (j : Int) < 0 := h9; omega), xr_n (by omega) (by decide), b2, nI_1, xr_n (by omega) (by decide), a2]
    unfold fk
    by_cases c : gl l (j + 1) < gl l j
    · rw [if_pos c, if_neg (nI_ge c (by omega)), xl_t, show nI j + (-1) = nI j - 1 from (Int32.sub_eq_add_neg _ _).symm]
      exact ih n (by omega) (by omega)
    · rw [if_neg c, if_pos (nI_le (by omega) (by omega))]
      refine ⟨fun h9 => (nomatch h9), fun k hk => ?_⟩
      cases hk
      obtain ⟨σ', e1, e2, e3⟩ := M_other h (k := j) hj c (l.length - 1) xFU (by omega) (by omega) (by show _ < 8192; omega)
      refine ⟨σ', ?_, e2, e3⟩
      unfold fX12_nextRow_c34
      rw [if_pos (show (0 : Int32) ≤ nI j from nI_le (a := 0) (b := j) (Nat.zero_le _) (by omega)), h18, xl_t, show nI l.length - 1 = nI (l.length - 1) from by
        obtain ⟨z, hz⟩ : ∃ z, l.length = z + 1 := ⟨l.length - 1, by omega⟩
        rw [hz]; exact nI_pred z]
      exact e1
/-- the next row, or none -/
theorem M_nextRow {σ : xSt} {l : List Nat} (h : rowIs σ l) : (nx l = none → fX12_nextRow σ = some (0, σ)) ∧ (∀ l', nx l = some l' → ∃ σ', fX12_nextRow σ = some (1, σ') ∧ rowIs σ' l' ∧ ∀ q, q ≠ 11 → σ' q = σ q) := by
  obtain ⟨h7, h18, hr⟩ := id h
  unfold fX12_nextRow nx
  rw [h18, xl_t]
  by_cases c : l.length = 0
  · have e : fk l (l.length - 1) = none := by rw [c]; rfl
    rw [e, c]
    refine ⟨fun _ => ?_, fun l' h9 => nomatch h9⟩
    show fX12_nextRow_c7 (8191 + 1) (nI 0 - 2) σ = _
    rw [fX12_nextRow_c7_s, if_pos (show nI 0 - 2 < 0 by decide)]
    unfold fX12_nextRow_c34
    rw [if_neg (show ¬ 0 ≤ nI 0 - 2 by decide)]
  · have e2 : nI l.length - 2 = nI (l.length - 1) - 1 := by
      obtain ⟨z, hz⟩ : ∃ z, l.length = z + 1 := ⟨l.length - 1, by omega⟩
      rw [hz, show z + 1 - 1 = z by omega, ← nI_1, fa_eq]
      rw [i32_sub (by rw [nI_1, nI_toInt (by omega)]; show _ ≤ _ - (2 : Int); omega) (by rw [nI_1, nI_toInt (by omega)]; show _ - (2 : Int) < _; omega), i32_sub (by rw [nI_toInt (by omega)]; show _ ≤ _ - (1 : Int); omega) (by rw [nI_toInt (by omega)]; show _ - (1 : Int) < _; omega), nI_1, nI_toInt (by omega), nI_toInt (by omega)]
      show _ - (2 : Int) = _ - (1 : Int)
      omega
    rw [e2]
    have t := M_turn h (l.length - 1) xFU (by omega) (by show _ < 8192; omega)
    cases e : fk l (l.length - 1) with
    | none => exact ⟨fun _ => t.1 e, fun l' h9 => nomatch h9⟩
    | some k =>
      refine ⟨fun h9 => (nomatch h9), fun l' h9 => ?_⟩
      cases h9
      exact t.2 k e
/-! the first of the least -/
def stB (b : Option (Int × List Nat)) (e : Option Int) (w : List Nat) : Option (Int × List Nat) := match e with
  | none => b
  | some e => match b with
    | none => some (e, w)
    | some (e0, w0) => if e < e0 then some (e, w) else some (e0, w0)
def bs (run : List Nat → Option Int) (pre : List Nat) : Option (Int × List Nat) → List (List Nat) → Option (Int × List Nat)
  | b, [] => b
  | b, c :: t => bs run pre (stB b (run c) (pre ++ c)) t
theorem bs_append (run : List Nat → Option Int) (pre : List Nat) : ∀ (L1 L2 : List (List Nat)) (b : Option (Int × List Nat)), bs run pre b (L1 ++ L2) = bs run pre (bs run pre b L1) L2
  | [], _, _ => rfl
  | c :: t, L2, b => bs_append run pre t L2 _
theorem bs_none {run : List Nat → Option Int} {pre : List Nat} : ∀ (L : List (List Nat)) (b : Option (Int × List Nat)), (∀ c, c ∈ L → run c = none) → bs run pre b L = b
  | [], _, _ => rfl
  | c :: t, b, h => by
    show bs run pre (stB b (run c) (pre ++ c)) t = b
    rw [h c List.mem_cons_self]
    exact bs_none t b (fun c hc => h c (List.mem_cons_of_mem _ hc))
theorem bs_map (run : List Nat → Option Int) (pre : List Nat) (a : Nat) : ∀ (L : List (List Nat)) (b : Option (Int × List Nat)), bs run pre b (L.map (fun c => a :: c)) = bs (fun c => run (a :: c)) (pre ++ [a]) b L
  | [], _ => rfl
  | c :: t, b => by
    show bs run pre (stB b (run (a :: c)) (pre ++ a :: c)) (t.map (fun c => a :: c)) = bs (fun c => run (a :: c)) (pre ++ [a]) (stB b (run (a :: c)) (pre ++ [a] ++ c)) t
    rw [bs_map run pre a t, List.append_assoc]
    rfl
/-- what cannot be better changes nothing -/
theorem bs_prune {run : List Nat → Option Int} {pre : List Nat} {e0 : Int} {w0 : List Nat} : ∀ (L : List (List Nat)), (∀ c e, c ∈ L → run c = some e → e0 ≤ e) → bs run pre (some (e0, w0)) L = some (e0, w0)
  | [], _ => rfl
  | c :: t, h => by
    have e : stB (some (e0, w0)) (run c) (pre ++ c) = some (e0, w0) := by
      cases hr : run c with
      | none => rfl
      | some e =>
        have := h c e List.mem_cons_self hr
        show (if e < e0 then some (e, pre ++ c) else some (e0, w0)) = _
        rw [if_neg (by omega)]
    show bs run pre (stB (some (e0, w0)) (run c) (pre ++ c)) t = _
    rw [e]
    exact bs_prune t (fun c e hc => h c e (List.mem_cons_of_mem _ hc))
theorem bs_congr {run run' : List Nat → Option Int} {pre : List Nat} : ∀ (L : List (List Nat)) (b : Option (Int × List Nat)), (∀ c, c ∈ L → run c = run' c) → bs run pre b L = bs run' pre b L
  | [], _, _ => rfl
  | c :: t, b, h => by
    show bs run pre (stB b (run c) (pre ++ c)) t = bs run' pre (stB b (run' c) (pre ++ c)) t
    rw [h c List.mem_cons_self]
    exact bs_congr t _ (fun c hc => h c (List.mem_cons_of_mem _ hc))
