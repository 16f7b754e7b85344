/-! the areMade loops: one recipe's parts, from the first to the last -/
def kX (σ σ' : xSt) : Prop := ∀ q, 52 ≤ q → q ≠ 53 → σ' q = σ q
theorem kX.tr {σ τ ρ : xSt} (h : kX σ τ) (h2 : kX τ ρ) : kX σ ρ := fun q hq hn => (h2 q hq hn).trans (h q hq hn)
theorem kL.x {σ τ : xSt} (h : kL σ τ) : kX σ τ := fun q hq _ => h q hq
theorem k53.x {σ τ : xSt} (h : k53 σ τ) : kX σ τ := fun q _ hn => h q hn
theorem rpN_out {s : sS} {r : Nat} {P : Nat → Int32} {q : Nat} (hq : q < 55 + 8 * r ∨ 55 + 8 * r + 8 ≤ q) : ∀ m, m ≤ 8 → rpN s r P m q = s q
  | 0, _ => rfl
  | m + 1, h => by
    show upd (rpN s r P m) (55 + (8 * r + m)) (P m) q = s q
    rw [upd_ne _ _ (by omega)]
    exact rpN_out hq m (by omega)
theorem rpN_at {s : sS} {r : Nat} {P : Nat → Int32} {j : Nat} : ∀ m, j < m → rpN s r P m (55 + (8 * r + j)) = P j
  | 0, h => absurd h (Nat.not_lt_zero _)
  | m + 1, h => by
    show upd (rpN s r P m) (55 + (8 * r + m)) (P m) (55 + (8 * r + j)) = P j
    by_cases c : j = m
    · rw [c, upd_at]
    · rw [upd_ne _ _ (by omega)]
      exact rpN_at m (by omega)
theorem esN_nil {pv : Nat → Nat} : ∀ k, esN pv k = [] → sN pv k = 0
  | 0, _ => rfl
  | k + 1, h => by
    unfold esN at h
    by_cases c : pv k = 0
    · rw [if_pos c] at h
      show sN pv k + pv k = 0
      rw [esN_nil k h, c]
    · rw [if_neg c] at h
      simp at h
theorem rd_empty (T : Nat → Int32) : (rd T 0).1 = 0 := by
  have h1 : blS T 0 80 0 = 0 := bl_stop (d := 79) (fun h => absurd h (Nat.lt_irrefl 0))
  have h2 : dgS T 0 80 0 = 0 := dg_stop (d := 79) (fun h => absurd h (Nat.lt_irrefl 0))
  unfold rd rdS
  dsimp only
  rw [h1, h2, if_pos rfl]
  rfl
theorem rd_IM {pv : Nat → Nat} {n : Nat} {t : Nat → Nat} {T : Nat → Int32} (hI : IM 8 pv n t) (hv : ∀ j, pv j < 100) (hS : 0 < sN pv 8) (hT : ∀ q, q < n → T q = nI (t q)) : rd T n = (-1, fun j => if j < 8 then nI (pv j) else 0) := by
  have hpr : prS (esN pv 8) (fun _ => 0) = fun j => if j < 8 then nI (pv j) else 0 := funext (fun j => esN_pr 8 j)
  have hok := esN_ok hv 8 (Nat.le_refl 8)
  have hlen := esN_len (pv := pv) 8
  have hne : esN pv 8 ≠ [] := fun z => by
    have := esN_nil 8 z
    omega
  have hn := hI.2.1
  have hr := hI.2.2.1
  have hX := hI.1
  rw [← hpr]
  generalize esN pv 8 = es at *
  match es, hne with
  | e :: es, _ =>
    obtain ⟨x1, x2⟩ := hX
    obtain ⟨_, o2, o3, o4⟩ := hok
    have hl : es.length < 9 := by
      have : (e :: es).length = es.length + 1 := rfl
      omega
    exact rd_rest (t := t) (T := T) (n := n) (by omega) hT (fun k hk => by have := hr k hk; omega) es e.1 e.2 0 0 9 (fun _ => 0) x1 (by rw [Nat.zero_add]; exact x2) (Nat.zero_le _) o2 o3 o4 hl
theorem P_partsL {r : Nat} {k16 : Int32 → xSt → Option (Int32 × xSt)} (n : Nat) : ∀ (d k : Nat) (σ : xSt) (pv : Nat → Nat) (m : Nat) (t : Nat → Nat) (rd : Nat → Int32), k + d = 8 → (∀ j, pv j < 100) → (4 < k → 0 < sN pv k) → IM k pv m t → (∀ j, j < k → rd j = nI (pv j)) → ∃ pv' σ' rd' m' t', (∀ j, pv' j < 100) ∧ 0 < sN pv' 8 ∧ IM 8 pv' m' t' ∧ (∀ j, j < 8 → rd' j = nI (pv' j)) ∧ k53 σ σ' ∧ fL_areMade_c178 k16 (n + d) (nI r) (nI (sN pv k)) (nI k) rd m t σ = fL_areMade_c178 k16 n (nI r) (nI (sN pv' 8)) (nI 8) rd' m' t' σ' := by
  intro d
  induction d with
  | zero =>
    intro k σ pv m t rd hk hv hS hI hrd
    obtain rfl : k = 8 := by omega
    exact ⟨pv, σ, rd, m, t, hv, hS (by omega), hI, hrd, k53.rf, rfl⟩
  | succ d ih =>
    intro k σ pv m t rd hk hv hS hI hrd
    have step : ∃ v σ1, v < 100 ∧ k53 σ σ1 ∧ fL_areMade_c178 k16 (n + d + 1) (nI r) (nI (sN pv k)) (nI k) rd m t σ = fL_areMade_c214 k16 (fL_areMade_c178 k16 (n + d)) (nI r) (nI (sN pv k)) (nI k) (nI v) (nI k) rd m t σ1 := by
      obtain ⟨x, σ1, hx, e1, k1⟩ := P_next σ (n := 3) (by omega) (by omega)
      have e1 : fX12_next 3 σ = some (nI x, σ1) := e1
      have h8 : ¬ (8 : Int32) ≤ nI k := nI_ge (b := 8) (by omega) (by decide)
      by_cases cx : x = 0
      · have hx0 : nI x = 0 := by rw [cx]; rfl
        refine ⟨0, σ1, by omega, k1, ?_⟩
        rw [fL_areMade_c178_s, if_neg h8, xc2_s e1, if_pos hx0]
        rfl
      · have hx0 : ¬ nI x = 0 := fun z => cx ((nI_eq (a := x) (b := 0) (by omega) (by omega)).mp z)
        obtain ⟨y, σ2, hy, e2, k2⟩ := P_next σ1 (n := 60) (by omega) (by omega)
        have e2 : fX12_next 60 σ1 = some (nI y, σ2) := e2
        refine ⟨y + 1, σ2, by omega, k53.tr k1 k2, ?_⟩
        rw [fL_areMade_c178_s, if_neg h8, xc2_s e1, if_neg hx0, xc2_s e2, show 1 + nI y = nI (y + 1) by rw [nI_succ, Int32.add_comm]]
    obtain ⟨v, σ1, hv1, k1, e1⟩ := step
    obtain ⟨w, σ2, rd2, b1, b2, b3, b4, b5, b6⟩ := P_c214 (k := k) (v := v) (rd := rd) σ1 (by omega) hv1
    have hcg : ∀ j, j < k → pv j = (fun j => if j = k then w else pv j) j := fun j hj => (if_neg (show ¬ j = k by omega)).symm
    have hpk : (fun j => if j = k then w else pv j) k = w := if_pos rfl
    have hall : ∀ j, (fun j => if j = k then w else pv j) j < 100 := fun j => by
      show (if j = k then w else pv j) < 100
      have := hv j
      split <;> omega
    have hI2 : IM k (fun j => if j = k then w else pv j) m t := IM_cg hI hcg
    have hs2 : sN pv k = sN (fun j => if j = k then w else pv j) k := sN_cg k hcg
    have hrd2 : ∀ j, j < k + 1 → rd2 j = nI ((fun j => if j = k then w else pv j) j) := fun j hj => by
      by_cases c : j = k
      · rw [c, b3, hpk]
      · rw [b4 j c, hrd j (by omega), hcg j (by omega)]
    have hS2 : 4 < k + 1 → 0 < sN (fun j => if j = k then w else pv j) (k + 1) := fun h4 => by
      show 0 < sN (fun j => if j = k then w else pv j) k + (fun j => if j = k then w else pv j) k
      rw [hpk, ← hs2]
      by_cases c : k = 4
      · have := b2 c
        omega
      · have := hS (by omega)
        omega
    generalize (fun j => if j = k then w else pv j) = qv at *
    obtain ⟨m3, t3, i3, e3⟩ := P_c273 (pv := qv) (k := k) (m := m) (t := t) (rd := rd2) (by omega) (hall k) (hrd2 k (by omega)) hI2
    obtain ⟨pv', σ', rd', m', t', c1, c2, c3, c4, c5, c6⟩ := ih (k + 1) σ2 qv m3 t3 rd2 (by omega) hall hS2 i3 hrd2
    refine ⟨pv', σ', rd', m', t', c1, c2, c3, c4, k53.tr k1 (k53.tr b5 c5), ?_⟩
    rw [show n + (d + 1) = n + d + 1 by omega, e1, b6, hs2, e3]
    exact c6
