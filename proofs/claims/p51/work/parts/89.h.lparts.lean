/-! the areMade loops: the parts of a dough and their text -/
def k53 (σ σ' : xSt) : Prop := ∀ q, q ≠ 53 → σ' q = σ q
theorem k53.rf {σ : xSt} : k53 σ σ := fun _ _ => rfl
theorem k53.tr {σ τ ρ : xSt} (h : k53 σ τ) (h2 : k53 τ ρ) : k53 σ ρ := fun q hq => (h2 q hq).trans (h q hq)
theorem k53.RX {σ τ : xSt} {a : xA} (h : k53 σ τ) (hR : RX σ a) : RX τ a := hR.cong (fun q hq => h q (by omega))
theorem lx_le {β : Type} {n k : Nat} {K : Option β} (h : n ≤ k) : xle n k K = K := if_pos h
theorem lx_99 {β : Type} {v : Nat} {K : Option β} (h : v < 100) : x99 (nI v) K = K := if_pos ⟨fun z => nI_nlt (a := v) (b := 0) (by omega) (by omega) z, by rw [nI_clamp (by omega)]; exact h⟩
theorem lx_bs {β : Type} {i n : Nat} {K : Option β} (h : i < n) (hn : n < 2147483648) : xbs n (nI i) K = K := if_pos (xin_n h hn)
theorem esN_cg {pv qv : Nat → Nat} : ∀ k, (∀ j, j < k → pv j = qv j) → esN pv k = esN qv k
  | 0, _ => rfl
  | k + 1, h => by
    unfold esN
    rw [esN_cg k (fun j hj => h j (by omega)), h k (by omega)]
theorem sN_cg {pv qv : Nat → Nat} : ∀ k, (∀ j, j < k → pv j = qv j) → sN pv k = sN qv k
  | 0, _ => rfl
  | k + 1, h => by
    unfold sN
    rw [sN_cg k (fun j hj => h j (by omega)), h k (by omega)]
theorem IM_cg {pv qv : Nat → Nat} {k n : Nat} {t : Nat → Nat} (h : IM k pv n t) (e : ∀ j, j < k → pv j = qv j) : IM k qv n t := by
  unfold IM at *
  rw [← esN_cg k e]
  exact h
theorem P_c273 {pv : Nat → Nat} {k m : Nat} {t : Nat → Nat} {rd : Nat → Int32} (hk : k < 8) (hv : pv k < 100) (hrd : rd k = nI (pv k)) (hI : IM k pv m t) : ∃ n' t', IM (k + 1) pv n' t' ∧ ∀ (k16 : Int32 → xSt → Option (Int32 × xSt)) (k178 : Int32 → Int32 → Int32 → (Nat → Int32) → Nat → (Nat → Nat) → xSt → Option (Int32 × xSt)) (a1 : Int32) (σ : xSt), fL_areMade_c273 k16 k178 a1 (nI (sN pv k)) (nI k) rd m t σ = k178 a1 (nI (sN pv (k + 1))) (nI (k + 1)) rd n' t' σ := by
  have e1 : nI (sN pv k) + nI (pv k) = nI (sN pv (k + 1)) := (Int32.ofNat_add _ _).symm
  have hm : m ≤ 41 := by
    have := hI.2.1
    omega
  have ck : (nI k).toNatClampNeg = k := nI_clamp (by omega)
  have cv : (nI (pv k)).toNatClampNeg = pv k := nI_clamp (by omega)
  have g : sb_dg k = 1 := (dec0 (by omega)).1
  have w0 : skW 0 = 1 := rfl
  have w1 : skW 1 = 2 := rfl
  by_cases c : pv k = 0
  · refine ⟨m, t, IM_skip hI c, fun k16 k178 a1 σ => ?_⟩
    unfold fL_areMade_c273
    rw [xrs_n hk (by omega), hrd]
    unfold xl
    dsimp only
    rw [e1, xrs_n hk (by omega), hrd, if_pos (by rw [c]; decide), ← nI_succ]
  · have hpos : ¬ nI (pv k) ≤ 0 := by
      show ¬ nI (pv k) ≤ nI 0
      rw [nI_leF (by omega) (by omega)]
      exact fun z => z
    by_cases c0 : m = 0
    · refine ⟨_, _, IM_add hI c hv hk (i := 0) (by rw [if_pos c0]), fun k16 k178 a1 σ => ?_⟩
      unfold fL_areMade_c273
      rw [xrs_n hk (by omega), hrd]
      unfold xl
      dsimp only
      rw [e1, xrs_n hk (by omega), hrd, if_neg hpos, if_pos (show nI m = 0 by rw [c0]; rfl), lx_le (by omega), lx_le (by omega), lx_99 (by omega), ck, g, lx_le (by omega), xrs_n hk (by omega), hrd, lx_le (by omega), lx_99 hv, cv, ← nI_succ, (cat4_en (t := t) (n := m) (i := 0) (g := k) (v := pv k) (by omega) (by omega) hv).2.1]
      rfl
    · refine ⟨_, _, IM_add hI c hv hk (i := 1) (by rw [if_neg c0]), fun k16 k178 a1 σ => ?_⟩
      unfold fL_areMade_c273
      rw [xrs_n hk (by omega), hrd]
      unfold xl
      dsimp only
      rw [e1, xrs_n hk (by omega), hrd, if_neg hpos, if_neg (show ¬ nI m = 0 from fun z => c0 ((nI_eq (a := m) (b := 0) (by omega) (by omega)).mp z)), lx_le (by omega), lx_le (by omega), lx_99 (by omega), ck, g, lx_le (by omega), xrs_n hk (by omega), hrd, lx_le (by omega), lx_99 hv, cv, ← nI_succ, (cat4_en (t := t) (n := m) (i := 1) (g := k) (v := pv k) (by omega) (by omega) hv).2.1]
      rfl
theorem P_c236 {k v : Nat} {rd : Nat → Int32} (σ : xSt) (hk : k < 8) (hv : v < 100) (hrd : rd k = nI v) : ∃ v' σ' rd', v' < 100 ∧ (k ≠ 7 → v' = v) ∧ rd' k = nI v' ∧ (∀ j, j ≠ k → rd' j = rd j) ∧ k53 σ σ' ∧ ∀ (k16 : Int32 → xSt → Option (Int32 × xSt)) (k178 : Int32 → Int32 → Int32 → (Nat → Int32) → Nat → (Nat → Nat) → xSt → Option (Int32 × xSt)) (a1 a3 : Int32) (m : Nat) (t : Nat → Nat), fL_areMade_c236 k16 k178 a1 a3 (nI k) rd m t σ = fL_areMade_c273 k16 k178 a1 a3 (nI k) rd' m t σ' := by
  by_cases c : k = 7
  · have hk7 : nI k = 7 := by rw [c]; rfl
    have ck : (nI k).toNatClampNeg = k := nI_clamp (by omega)
    obtain ⟨x, σ1, hx, e1, k1⟩ := P_next σ (n := 12) (by omega) (by omega)
    have e1 : fX12_next 12 σ = some (nI x, σ1) := e1
    by_cases cx : x = 0
    · have hx0 : nI x = 0 := by rw [cx]; rfl
      obtain ⟨y, σ2, hy, e2, k2⟩ := P_next σ1 (n := 5) (by omega) (by omega)
      have e2 : fX12_next 5 σ1 = some (nI y, σ2) := e2
      have hy1 : 1 + nI y = nI (y + 1) := by rw [nI_succ, Int32.add_comm]
      refine ⟨y + 1, σ2, upd rd k (nI (y + 1)), by omega, fun z => absurd c z, upd_at _ _ _, fun j hj => upd_ne _ _ hj, k53.tr k1 k2, fun k16 k178 a1 a3 m t => ?_⟩
      unfold fL_areMade_c236 fL_areMade_c272
      rw [if_pos hk7, xc2_s e1, if_pos hx0, xc2_s e2, lx_bs hk (by omega)]
      unfold xl
      dsimp only
      rw [hy1, ck]
    · have hx0 : ¬ nI x = 0 := fun z => cx ((nI_eq (a := x) (b := 0) (by omega) (by omega)).mp z)
      refine ⟨0, σ1, upd rd k (nI 0), by omega, fun z => absurd c z, upd_at _ _ _, fun j hj => upd_ne _ _ hj, k1, fun k16 k178 a1 a3 m t => ?_⟩
      unfold fL_areMade_c236 fL_areMade_c272
      rw [if_pos hk7, xc2_s e1, if_neg hx0, lx_bs hk (by omega)]
      unfold xl
      dsimp only
      rw [ck]
      rfl
  · refine ⟨v, σ, rd, hv, fun _ => rfl, hrd, fun _ _ => rfl, k53.rf, fun k16 k178 a1 a3 m t => ?_⟩
    unfold fL_areMade_c236
    rw [if_neg (show ¬ nI k = 7 from fun z => c ((nI_eq (a := k) (b := 7) (by omega) (by omega)).mp z))]
theorem P_c214 {k v : Nat} {rd : Nat → Int32} (σ : xSt) (hk : k < 8) (hv : v < 100) : ∃ v' σ' rd', v' < 100 ∧ (k = 4 → 0 < v') ∧ rd' k = nI v' ∧ (∀ j, j ≠ k → rd' j = rd j) ∧ k53 σ σ' ∧ ∀ (k16 : Int32 → xSt → Option (Int32 × xSt)) (k178 : Int32 → Int32 → Int32 → (Nat → Int32) → Nat → (Nat → Nat) → xSt → Option (Int32 × xSt)) (a1 a3 : Int32) (m : Nat) (t : Nat → Nat), fL_areMade_c214 k16 k178 a1 a3 (nI k) (nI v) (nI k) rd m t σ = fL_areMade_c273 k16 k178 a1 a3 (nI k) rd' m t σ' := by
  have ck : (nI k).toNatClampNeg = k := nI_clamp (by omega)
  by_cases c : k = 4
  · have hk4 : nI k = 4 := by rw [c]; rfl
    obtain ⟨y, σ2, hy, e2, k2⟩ := P_next σ (n := 90) (by omega) (by omega)
    have e2 : fX12_next 90 σ = some (nI y, σ2) := e2
    have hy1 : 1 + nI y = nI (y + 1) := by rw [nI_succ, Int32.add_comm]
    obtain ⟨v', σ3, rd', b1, b2, b3, b4, b5, b6⟩ := P_c236 (k := k) (v := y + 1) (rd := upd (upd rd k (nI v)) k (nI (y + 1))) σ2 hk (by omega) (upd_at _ _ _)
    refine ⟨v', σ3, rd', b1, fun _ => by rw [b2 (by omega)]; omega, b3, fun j hj => by rw [b4 j hj, upd_ne _ _ hj, upd_ne _ _ hj], k53.tr k2 b5, fun k16 k178 a1 a3 m t => ?_⟩
    unfold fL_areMade_c214
    rw [lx_bs hk (by omega)]
    unfold xl
    dsimp only
    rw [if_pos hk4, xc2_s e2, lx_bs hk (by omega), hy1, ck]
    exact b6 k16 k178 a1 a3 m t
  · obtain ⟨v', σ3, rd', b1, b2, b3, b4, b5, b6⟩ := P_c236 (k := k) (v := v) (rd := upd rd k (nI v)) σ hk hv (upd_at _ _ _)
    refine ⟨v', σ3, rd', b1, fun z => absurd z c, b3, fun j hj => by rw [b4 j hj, upd_ne _ _ hj], b5, fun k16 k178 a1 a3 m t => ?_⟩
    unfold fL_areMade_c214
    rw [lx_bs hk (by omega)]
    unfold xl
    dsimp only
    rw [if_neg (show ¬ nI k = 4 from fun z => c ((nI_eq (a := k) (b := 4) (by omega) (by omega)).mp z)), ck]
    exact b6 k16 k178 a1 a3 m t
