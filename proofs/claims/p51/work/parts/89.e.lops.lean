/-! ===== CALLS OF THE CLASS, PURELY ===== -/
theorem GH.inv {N : Nat} {a : xA} (h : GH N a) : Inv N a.2.1 := h.1
theorem GH.cles {N : Nat} {a : xA} (h : GH N a) : ∀ x ∈ a.1, cle x a.2.1 := fun x hx => (h.2.1 x hx).2
theorem P_op {f : Option (xO × xSt)} {σ : xSt} {sp : xO × xA} {r : Int32} {a' : xA} {N : Nat} (h : XR f sp) (hG : GH (N + 1) sp.2) (e : sp = (.inl r, a')) : ∃ σ', RX σ' a' ∧ GH (N + 1) a' ∧ kL σ σ' ∧ ∀ {β : Type} (K : Int32 → xSt → Option β), xco f σ K = K r σ' := by
  obtain ⟨σ', q1, q2, q3⟩ := xco_XR (σ := σ) h (congrArg Prod.fst e)
  rw [e] at q1 hG
  exact ⟨σ', q1, hG, q2, q3⟩
theorem P_ask {f : Option (xO × xSt)} {σ : xSt} {sp : xO × xA} {r : Int32} {a : xA} (h : XR f sp) (e : sp = (.inl r, a)) : ∃ σ', RX σ' a ∧ kL σ σ' ∧ ∀ {β : Type} (K : Int32 → xSt → Option β), xco f σ K = K r σ' := by
  obtain ⟨σ', q1, q2, q3⟩ := xco_XR (σ := σ) h (congrArg Prod.fst e)
  rw [e] at q1
  exact ⟨σ', q1, q2, q3⟩
theorem caps_n {s : sS} (hc : caps s) : s 5 = nI (cR s) ∧ s 6 = nI (cD s) ∧ s 7 = nI (cS s) := ⟨hc.2.2.2.2.2.1, hc.2.2.2.2.2.2.1, hc.2.2.2.2.2.2.2.1⟩
theorem r_in {s : sS} (hc : caps s) {r : Nat} (hr : r < cR s) : 0 ≤ nI r ∧ nI r ≤ s 5 - 1 := by
  have h6 := hc.1
  obtain ⟨z, hz⟩ : ∃ z, cR s = z + 1 := ⟨cR s - 1, by omega⟩
  refine ⟨nI_pos' (by omega), ?_⟩
  rw [(caps_n hc).1, hz, nI_pred]
  exact nI_le (by omega) (by omega)
theorem d_in {s : sS} (hc : caps s) {k : Nat} (hk : k < cD s) : 0 ≤ nI k ∧ nI k ≤ s 6 - 1 := by
  have h6 := hc.2.1
  obtain ⟨z, hz⟩ : ∃ z, cD s = z + 1 := ⟨cD s - 1, by omega⟩
  refine ⟨nI_pos' (by omega), ?_⟩
  rw [(caps_n hc).2.1, hz, nI_pred]
  exact nI_le (by omega) (by omega)
/-- a recipe more -/
def adS (s : sS) (p lo hi al : Int32) : sS := upd (upd (upd (upd (upd (upd (upd s 5 (nI (cR s + 1))) (19 + cR s) p) (25 + cR s) lo) (31 + cR s) hi) (37 + cR s) 100) (43 + cR s) al) (49 + cR s) 20
theorem P_addRecipe {N : Nat} {σ : xSt} {a : xA} (h : RX σ a) (hG : GH N a) (hlt : cR a.2.1 < 6) {p lo hi al : Nat} (hp : 50 ≤ p ∧ p ≤ 2000) (hlo : 1 ≤ lo ∧ lo ≤ hi) (hhi : hi ≤ 200) (hal : al ≤ 15) : ∃ σ', RX σ' (kp a.1 a.2.1, adS a.2.1 (nI p) (nI lo) (nI hi) (nI al), a.2.2) ∧ GH (N + 1) (kp a.1 a.2.1, adS a.2.1 (nI p) (nI lo) (nI hi) (nI al), a.2.2) ∧ kL σ σ' ∧ ∀ {β : Type} (K : Int32 → xSt → Option β), xco (fX11_addRecipe (nI p) (nI lo) (nI hi) 100 (nI al) σ) σ K = K (nI (cR a.2.1)) σ' := by
  have hc := hG.inv.caps
  refine P_op (X_addRecipe (H := a.1) (s := a.2.1) (tx := a.2.2) h hc hG.cles _ _ _ _ _) (G_addRecipe (H := a.1) (s := a.2.1) (tx := a.2.2) hG _ _ _ _ _).1 ?_
  unfold sp_addRecipe
  rw [if_pos ⟨nI_le (a := 50) hp.1 (by omega), nI_le (b := 2000) hp.2 (by decide)⟩, if_pos ⟨nI_le (a := 1) hlo.1 (by omega), nI_le (b := 200) (by omega) (by decide)⟩, if_pos ⟨nI_le hlo.2 (by omega), nI_le (b := 200) hhi (by decide)⟩, if_pos (by decide), if_pos ⟨nI_pos' (by omega), nI_le (b := 15) hal (by decide)⟩]
  rw [if_neg (by rw [show a.2.1 5 = nI (cR a.2.1) from (caps_n hc).1]; exact nI_ge (b := 6) hlt (by decide)), show a.2.1 5 = nI (cR a.2.1) from (caps_n hc).1]
  rfl
theorem P_setWait {N : Nat} {σ : xSt} {a : xA} (h : RX σ a) (hG : GH N a) {r w : Nat} (hr : r < cR a.2.1) (hw : w ≤ 99) : ∃ σ', RX σ' (kp a.1 a.2.1, upd a.2.1 (49 + r) (nI w), a.2.2) ∧ GH (N + 1) (kp a.1 a.2.1, upd a.2.1 (49 + r) (nI w), a.2.2) ∧ kL σ σ' ∧ ∀ {β : Type} (K : Int32 → xSt → Option β), xco (fX11_setWait (nI r) (nI w) σ) σ K = K (a.2.1 (49 + r)) σ' := by
  have hc := hG.inv.caps
  have h6 := hc.1
  refine P_op (X_setWait (H := a.1) (s := a.2.1) (tx := a.2.2) h hc _ _) (G_setWait (H := a.1) (s := a.2.1) (tx := a.2.2) hG _ _).1 ?_
  unfold sp_setWait
  have h1 : 0 ≤ nI r ∧ nI r ≤ (a.1, a.2.1, a.2.2).2.1 5 - 1 := r_in hc hr
  rw [if_pos h1, if_pos ⟨nI_pos' (by omega), nI_le (b := 99) hw (by decide)⟩, nI_clamp (show r < 2 ^ 31 by omega)]
theorem P_receive {N : Nat} {σ : xSt} {a : xA} (h : RX σ a) (hG : GH N a) (hN : N ≤ 1000) {k : Nat} (hk : k < 7) (h0 : a.2.1 (11 + k) = 0) : ∃ σ', RX σ' (kp a.1 a.2.1, upd (upd a.2.1 (11 + k) 20000) 8 (a.2.1 8 + 20000), a.2.2) ∧ GH (N + 1) (kp a.1 a.2.1, upd (upd a.2.1 (11 + k) 20000) 8 (a.2.1 8 + 20000), a.2.2) ∧ kL σ σ' ∧ ∀ {β : Type} (K : Int32 → xSt → Option β), xco (fX11_receive (nI k) 20000 σ) σ K = K 20000 σ' := by
  have hc := hG.inv.caps
  refine P_op (X_receive (H := a.1) (s := a.2.1) (tx := a.2.2) h hc _ _) (G_receive (H := a.1) (s := a.2.1) (tx := a.2.2) hG hN _ _).1 ?_
  unfold sp_receive
  have h1 : (a.1, a.2.1, a.2.2).2.1 (11 + (nI k).toNatClampNeg) = 0 := by rw [nI_clamp (by omega)]; exact h0
  rw [h1, if_pos ⟨nI_pos' (by omega), nI_le (b := 7) (by omega) (by decide)⟩, if_neg (show ¬ nI k = 7 from ch_ne (d := 7) (by omega) (by decide) (by omega)), if_pos (by decide), if_neg (by decide), nI_clamp (show k < 2 ^ 31 by omega), show (0 : Int32) + 20000 = 20000 by decide]
theorem P_fault {σ : xSt} {a : xA} (h : RX σ a) : ∃ σ', RX σ' a ∧ kL σ σ' ∧ ∀ {β : Type} (K : Int32 → xSt → Option β), xcm (fX11_fault σ) σ K = K (rd a.2.2.1 a.2.2.2).1 σ' :=
  xcm_XR (σ := σ) (X_fault (H := a.1) (s := a.2.1) (tx := a.2.2) h)
theorem P_readParts {N : Nat} {σ : xSt} {a : xA} (h : RX σ a) (hG : GH N a) {r : Nat} (hr : r < cR a.2.1) {P : Nat → Int32} (hrd : rd a.2.2.1 a.2.2.2 = (-1, P)) : ∃ σ', RX σ' (kp a.1 a.2.1, rpN a.2.1 r P 8, (a.2.2.1, 0)) ∧ GH (N + 1) (kp a.1 a.2.1, rpN a.2.1 r P 8, (a.2.2.1, 0)) ∧ kL σ σ' ∧ ∀ {β : Type} (K : Int32 → xSt → Option β), xco (fX11_readParts (nI r) σ) σ K = K (pu (rpN a.2.1 r P 8) r 8) σ' := by
  have hc := hG.inv.caps
  have h6 := hc.1
  refine P_op (X_readParts (H := a.1) (s := a.2.1) (tx := a.2.2) h hG.inv _) (G_readParts (H := a.1) (s := a.2.1) (tx := a.2.2) hG _).1 ?_
  unfold sp_readParts
  have h1 : 0 ≤ nI r ∧ nI r ≤ (a.1, a.2.1, a.2.2).2.1 5 - 1 := r_in hc hr
  have h2 : rd (a.1, a.2.1, a.2.2).2.2.1 (a.1, a.2.1, a.2.2).2.2.2 = (-1, P) := hrd
  rw [if_pos h1, h2, if_pos rfl, nI_clamp (show r < 2 ^ 31 by omega)]
theorem P_amount {N : Nat} {σ : xSt} {a : xA} (h : RX σ a) (hG : GH N a) {r g k : Nat} (hr : r < cR a.2.1) (hg : 1 ≤ g ∧ g ≤ 100000) (hk : k < 8) (hp : ¬ pu a.2.1 r 8 ≤ 0) : ∃ σ', RX σ' a ∧ kL σ σ' ∧ ∀ {β : Type} (K : Int32 → xSt → Option β), xco (fX11_amount (nI r) (nI g) (nI k) σ) σ K = K (amt a.2.1 r (nI g) k) σ' := by
  have hc := hG.inv.caps
  have h6 := hc.1
  refine P_ask (X_amount (H := a.1) (s := a.2.1) (tx := a.2.2) h hG.inv _ _ _) ?_
  unfold sp_amount
  have h1 : 0 ≤ nI r ∧ nI r ≤ (a.1, a.2.1, a.2.2).2.1 5 - 1 := r_in hc hr
  have h2 : ¬ pu (a.1, a.2.1, a.2.2).2.1 (nI r).toNatClampNeg 8 ≤ 0 := by rw [nI_clamp (by omega)]; exact hp
  rw [if_pos h1, if_pos ⟨nI_pos' (by omega), nI_le (b := 7) (by omega) (by decide)⟩, if_pos ⟨nI_le (a := 1) hg.1 (by omega), nI_le (b := 100000) hg.2 (by decide)⟩, if_neg h2, nI_clamp (show r < 2 ^ 31 by omega), nI_clamp (show k < 2 ^ 31 by omega)]
