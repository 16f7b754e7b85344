/-! isMixed: what the class answers -/
theorem X_mixCostV {N : Nat} {σ : xSt} {H : List sS} {s : sS} {tx : (Nat → Int32) × Nat} (h : RX σ (H, s, tx)) (hI : Inv N s) {p0 p1 : Int32} (p2 : Int32) (g : bnd p0 p1) : (Mn s p0.toInt p1.toInt (TC s p0.toInt p1.toInt) none → XR (fX11_mixCost p0 p1 p2 σ) (.inr 3, (H, s, tx))) ∧ ∀ b, Mn s p0.toInt p1.toInt (TC s p0.toInt p1.toInt) (some b) → XR (fX11_mixCost p0 p1 p2 σ) (.inl (lowT (keyC s b 0).toNat (100 * b.2).toNat p2), (H, s, tx)) := by
  obtain ⟨t0, t1⟩ := bnd_bt g
  rw [(X_mixC0 p0 p1 p2 σ).1 g]
  obtain ⟨σ1, c, a1, a2, a3, a4⟩ := X_findMix h hI t0 t1
  unfold fX11_mixCost_c27
  rw [X_needArgument1, xct_l, a1, xc2_t]
  refine ⟨fun hM => ?_, fun b hM => ?_⟩
  · cases c with
    | some c => exact absurd a4.2.1 (hM c a4.1)
    | none =>
      show XR (xct (fX11_needElement 0 σ1) _) _
      rw [X_needElement0, xct_r]
      exact ⟨σ1, rfl, a2⟩
  · cases c with
    | none => exact absurd hM.2.1 (a4 b hM.1)
    | some c =>
      obtain ⟨x1, x2, x3⟩ := a3
      have kb := key_nn hI a4.2.1 (k := 0) (by decide)
      have ccw : cbw c := ⟨x1.1, x1.2.1, x1.2.2.1⟩
      have ub := key_ub hI ccw (k := 0) (by decide)
      have z1 := x1.1
      have z2 := x1.2.1
      rw [mix_val hI hM.2.1 a4.2.1 (Mn_two hM a4) (k := 0) (by decide) p2]
      show XR (xct (fX11_needElement 1 σ1) _) _
      obtain ⟨r, e1, e2⟩ := X_costOf a2 hI (q0 := 33) (v := c.1) (fun f hf => ⟨x3 f hf, x1.2.2.1 f hf⟩) 4 0 xFU 0 rfl (by decide) rfl (by decide) (by decide)
      have e2 : r.toInt = keyC s c 0 := e2
      unfold fX3_costOf
      rw [X_needElement1, xct_l, show fX3_costOf_c4 33 xFU 0 0 σ1 = some (r, σ1) from e1, xc2_t, nI_ofZ e2 kb, nI_ofZ x2 (by omega), X_lowestTerm (by omega) (by omega) (by omega), xc2_t]
      exact ⟨σ1, rfl, a2⟩
theorem X_mixShareV {N : Nat} {σ : xSt} {H : List sS} {s : sS} {tx : (Nat → Int32) × Nat} (h : RX σ (H, s, tx)) (hI : Inv N s) {p0 p1 : Int32} (p3 : Int32) (g : bnd p0 p1) {f : Nat} (hf : f < 4) {b : Cd} (hM : Mn s p0.toInt p1.toInt (TC s p0.toInt p1.toInt) (some b)) : XR (fX11_mixShare p0 p1 (nI f) p3 σ) (.inl (lowT (b.1 f).toNat (100 * b.2).toNat p3), (H, s, tx)) := by
  obtain ⟨t0, t1⟩ := bnd_bt g
  have gf : 0 ≤ nI f ∧ nI f ≤ 3 := ⟨nI_pos' (by omega), nI_le (b := 3) (by omega) (by decide)⟩
  rw [(X_mixS0 p0 p1 (nI f) p3 σ).1 g gf]
  obtain ⟨σ1, c, a1, a2, a3, a4⟩ := X_findMix h hI t0 t1
  unfold fX11_mixShare_c36
  rw [X_needArgument1, xct_l, a1, xc2_t]
  cases c with
  | none => exact absurd hM.2.1 (a4 b hM.1)
  | some c =>
    obtain ⟨x1, x2, x3⟩ := a3
    have kb : 0 ≤ c.1 f := key_nn hI a4.2.1 (k := f + 1) (by omega)
    have ccw : cbw c := ⟨x1.1, x1.2.1, x1.2.2.1⟩
    have ub : c.1 f ≤ 800000000 := key_ub hI ccw (k := f + 1) (by omega)
    have z1 := x1.1
    have z2 := x1.2.1
    have mv : lowT (b.1 f).toNat (100 * b.2).toNat p3 = lowT (c.1 f).toNat (100 * c.2).toNat p3 := mix_val hI hM.2.1 a4.2.1 (Mn_two hM a4) (k := f + 1) (by omega) p3
    rw [mv]
    show XR (xct (fX11_needElement 1 σ1) _) _
    rw [X_needElement1, xct_l, xr_n (by omega) (by decide), nI_ofZ (x3 f (by omega)) kb, nI_ofZ x2 (by omega), X_lowestTerm (by omega) (by omega) (by omega), xc2_t]
    exact ⟨σ1, rfl, a2⟩
/-- whether there is a mix -/
theorem X_mixIs {N : Nat} {σ : xSt} {H : List sS} {s : sS} {tx : (Nat → Int32) × Nat} (h : RX σ (H, s, tx)) (hI : Inv N s) {p0 p1 : Int32} (g : bnd p0 p1) : Mn s p0.toInt p1.toInt (TC s p0.toInt p1.toInt) none ∨ ∃ b, cb b ∧ Mn s p0.toInt p1.toInt (TC s p0.toInt p1.toInt) (some b) := by
  obtain ⟨t0, t1⟩ := bnd_bt g
  obtain ⟨σ1, c, a1, a2, a3, a4⟩ := X_findMix h hI t0 t1
  cases c with
  | none => exact Or.inl a4
  | some c => exact Or.inr ⟨c, a3.1, a4⟩
theorem xtr_l {β : Type} {f : Option (xO × xSt)} {σ : xSt} {a : xA} {r : Int32} (h : XR f (.inl r, a)) (k : Nat) : ∃ σ', RX σ' a ∧ kL σ σ' ∧ ∀ (K : Int32 → xSt → Option β) (J : xSt → Option β), xtr f σ k K J = K r σ' := by
  obtain ⟨τ, h1, h2⟩ := h
  exact ⟨xmix τ σ, xmix_RX h2, xmix_kL, fun K J => by rw [h1]; rfl⟩
theorem xtr_r {β : Type} {f : Option (xO × xSt)} {σ : xSt} {a : xA} {k : Nat} (h : XR f (.inr k, a)) : ∃ σ', RX σ' a ∧ kL σ σ' ∧ ∀ (K : Int32 → xSt → Option β) (J : xSt → Option β), xtr f σ k K J = J σ' := by
  obtain ⟨τ, h1, h2⟩ := h
  refine ⟨xmix τ σ, xmix_RX h2, xmix_kL, fun K J => ?_⟩
  rw [h1]
  exact if_pos rfl
/-- a flour set -/
theorem P_setFlour {N : Nat} {σ : xSt} {H : List sS} {s : sS} {tx : (Nat → Int32) × Nat} (h : RX σ (H, s, tx)) (hG : GH N (H, s, tx)) {f S C P : Nat} (hf : f < 4) (hS : S ≤ 200) (hC : C ≤ 999) (hP : P ≤ 100) : ∃ σ' s', RX σ' (kp H s, s', tx) ∧ GH (N + 1) (kp H s, s', tx) ∧ (s' (247 + f) = nI S ∧ s' (251 + f) = nI C ∧ s' (255 + f) = nI P) ∧ (∀ q, q ≠ 247 + f → q ≠ 251 + f → q ≠ 255 + f → s' q = s q) ∧ kL σ σ' ∧ ∀ {β : Type} (K : Int32 → xSt → Option β), xco (fX11_setFlour (nI f) (nI S) (nI C) (nI P) σ) σ K = K (s (251 + f)) σ' := by
  have hI : Inv N s := hG.inv
  have e : sp_setFlour (nI f) (nI S) (nI C) (nI P) (H, s, tx) = (.inl (s (251 + f)), (kp H s, upd (upd (upd s (247 + f) (nI S)) (251 + f) (nI C)) (255 + f) (nI P), tx)) := by
    unfold sp_setFlour
    rw [if_pos ⟨nI_pos' (by omega), nI_le (b := 3) (by omega) (by decide)⟩, if_pos ⟨nI_pos' (by omega), nI_le (b := 200) hS (by decide)⟩, if_pos ⟨nI_pos' (by omega), nI_le (b := 999) hC (by decide)⟩, if_pos ⟨nI_pos' (by omega), nI_le (b := 100) hP (by decide)⟩, nI_clamp (show f < 2 ^ 31 by omega)]
  obtain ⟨σ', g1, g2, g3, g4⟩ := P_op (X_setFlour h hI.caps (nI f) (nI S) (nI C) (nI P)) (G_setFlour hG (nI f) (nI S) (nI C) (nI P)).1 e
  refine ⟨σ', _, g1, g2, ⟨?_, ?_, upd_at _ _ _⟩, fun q q1 q2 q3 => ?_, g3, g4⟩
  · rw [upd_ne _ _ (by omega), upd_ne _ _ (by omega), upd_at]
  · rw [upd_ne _ _ (by omega), upd_at]
  · rw [upd_ne _ _ q3, upd_ne _ _ q2, upd_ne _ _ q1]
/-- the flours set so far -/
def FK (f : Nat) (s : sS) (S C P : Nat → Nat) (rd1 rd2 rd3 : Nat → Int32) : Prop := (∀ k, k < f → (s (247 + k) = nI (S k) ∧ s (251 + k) = nI (C k) ∧ s (255 + k) = nI (P k)) ∧ (S k ≤ 200 ∧ C k ≤ 99 ∧ P k ≤ 100) ∧ (rd1 k = nI (S k) ∧ rd2 k = nI (C k) ∧ rd3 k = nI (P k))) ∧ ∀ k, f ≤ k → k < 4 → s (251 + k) = 50
theorem P_c79 {N f v1 v2 v3 : Nat} {σ : xSt} {H : List sS} {s : sS} {tx : (Nat → Int32) × Nat} {S C P : Nat → Nat} {rd1 rd2 rd3 : Nat → Int32} (h : RX σ (H, s, tx)) (hG : GH N (H, s, tx)) (hf : f < 4) (hk : FK f s S C P rd1 rd2 rd3) (h1 : v1 ≤ 200) (h2 : v2 ≤ 99) (h3 : v3 ≤ 100) (k15 : Int32 → (Nat → Int32) → (Nat → Int32) → (Nat → Int32) → xSt → Option (Int32 × xSt)) : ∃ σ' s' S' C' P' rd1' rd2' rd3', RX σ' (kp H s, s', tx) ∧ GH (N + 1) (kp H s, s', tx) ∧ FK (f + 1) s' S' C' P' rd1' rd2' rd3' ∧ (∀ q, (q < 247 ∨ 259 ≤ q) → s' q = s q) ∧ kL σ σ' ∧ fL_isMixed_c79 k15 (nI f) (nI v3) (nI f) (upd rd1 f (nI v1)) (upd rd2 f (nI v2)) rd3 σ = k15 (nI (f + 1)) rd1' rd2' rd3' σ' := by
  obtain ⟨σ1, s1, g1, g2, ⟨g3, g4, g5⟩, g6, g7, g8⟩ := P_setFlour h hG (f := f) (S := v1) (C := v2) (P := v3) hf h1 (by omega) h3
  refine ⟨σ1, s1, fun j => if j = f then v1 else S j, fun j => if j = f then v2 else C j, fun j => if j = f then v3 else P j, upd rd1 f (nI v1), upd rd2 f (nI v2), upd rd3 f (nI v3), g1, g2, ⟨fun k hk1 => ?_, fun k hk1 hk2 => ?_⟩, fun q hq => g6 q (by omega) (by omega) (by omega), g7, ?_⟩
  · dsimp only
    by_cases c : k = f
    · rw [if_pos c, if_pos c, if_pos c, c, upd_at, upd_at, upd_at]
      exact ⟨⟨g3, g4, g5⟩, ⟨h1, h2, h3⟩, rfl, rfl, rfl⟩
    · rw [if_neg c, if_neg c, if_neg c, upd_ne _ _ c, upd_ne _ _ c, upd_ne _ _ c, g6 _ (by omega) (by omega) (by omega), g6 _ (by omega) (by omega) (by omega), g6 _ (by omega) (by omega) (by omega)]
      exact hk.1 k (by omega)
  · rw [g6 _ (by omega) (by omega) (by omega)]
    exact hk.2 k (by omega) hk2
  · unfold fL_isMixed_c79
    rw [xbs_t (xin_n hf (by omega)), xl_t, nI_clamp (show f < 2 ^ 31 by omega), xrs_n hf (by decide), upd_at, xrs_n hf (by decide), upd_at, xrs_n hf (by decide), upd_at, g8, hk.2 f (by omega) hf, if_pos rfl, xl_t, ← nI_succ]
