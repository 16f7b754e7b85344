/-! ===== THE CART'S WAY: the model, and both ===== -/
theorem gl_drop {l : List Nat} {k : Nat} (h : k < l.length) : l.drop k = gl l k :: l.drop (k + 1) := by
  rw [List.drop_eq_getElem_cons h]
  unfold gl
  rw [List.getD_eq_getElem?_getD, List.getElem?_eq_getElem h]
  rfl
theorem gl_mem {l : List Nat} {k : Nat} (h : k < l.length) : gl l k ∈ l := by
  unfold gl
  rw [List.getD_eq_getElem?_getD, List.getElem?_eq_getElem h]
  exact List.getElem_mem h
def mwB (n : Nat) (σ : xSt) : Option (Int × List Nat) → Prop
  | none => σ 0 19 = 2000000000
  | some (e, p) => (σ 0 19).toInt = e ∧ 0 ≤ e ∧ e ≤ 2000 ∧ p.length = n ∧ ∀ k, k < n → gl p k < 8 ∧ σ 12 k = nI (gl p k)
theorem mwB.frame {n : Nat} {σ σ' : xSt} {b : Option (Int × List Nat)} (h : mwB n σ b) (h1 : σ' 0 19 = σ 0 19) (h2 : σ' 12 = σ 12) : mwB n σ' b := by
  cases b with
  | none => show σ' 0 19 = 2000000000; rw [h1]; exact h
  | some b =>
    obtain ⟨e, p⟩ := b
    show (σ' 0 19).toInt = e ∧ 0 ≤ e ∧ e ≤ 2000 ∧ p.length = n ∧ ∀ k, k < n → gl p k < 8 ∧ σ' 12 k = nI (gl p k)
    rw [h1, h2]
    exact h
theorem okR_iff {n : Nat} {l : List Nat} (h : okR n l = true) : l.length = n ∧ ∀ k, k < l.length → gl l k < n := by
  unfold okR at h
  rw [Bool.and_eq_true] at h
  have h2 := List.all_eq_true.mp h.2
  exact ⟨eq_of_beq h.1, fun k hk => of_decide_eq_true (h2 _ (gl_mem hk))⟩
theorem chn_one {l : List Nat} (h : chn [l] = true) : nx l = none := by
  have h : ((nx l == none) && chn []) = true := h
  rw [Bool.and_eq_true] at h
  exact eq_of_beq h.1
theorem chn_two {l l' : List Nat} {t : List (List Nat)} (h : chn (l :: l' :: t) = true) : nx l = some l' ∧ chn (l' :: t) = true := by
  have h : ((nx l == some l') && chn (l' :: t)) = true := h
  rw [Bool.and_eq_true] at h
  exact ⟨eq_of_beq h.1, h.2⟩
theorem mwB_far {n : Nat} {σ : xSt} {b : Option (Int × List Nat)} (h : mwB n σ b) (X Y : Option (Int32 × xSt)) : (b = none → (if 2000000000 ≤ σ 0 19 then X else Y) = X) ∧ ∀ w, b = some w → (if 2000000000 ≤ σ 0 19 then X else Y) = Y := by
  cases b with
  | none =>
    have h : σ 0 19 = 2000000000 := h
    refine ⟨fun _ => ?_, fun w h9 => nomatch h9⟩
    rw [if_pos (by rw [h]; decide)]
  | some b =>
    obtain ⟨e, p⟩ := b
    obtain ⟨k1, k2, k3, -⟩ := h
    refine ⟨fun h9 => (nomatch h9), fun w h9 => ?_⟩
    rw [if_neg (show ¬ 2000000000 ≤ σ 0 19 from fun h9 => by rw [fa_le, k1] at h9; have h9 : (2000000000 : Int) ≤ e := h9; omega)]
theorem gl_rg : ∀ (n j k : Nat), k < n → gl (rg j n) k = j + k
  | 0, _, _, h => by omega
  | n + 1, j, 0, _ => rfl
  | n + 1, j, k + 1, h => by
    show gl (rg (j + 1) n) k = _
    rw [gl_rg n (j + 1) k (by omega)]
    omega
theorem rg_len : ∀ (n j : Nat), (rg j n).length = n
  | 0, _ => rfl
  | n + 1, j => by
    show (rg (j + 1) n).length + 1 = n + 1
    rw [rg_len n (j + 1)]