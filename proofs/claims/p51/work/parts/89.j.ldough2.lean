/-! the areMade loops: one recipe's dough, told, read and shared -/
theorem IM_0 {pv t : Nat → Nat} : IM 0 pv 0 t := ⟨rfl, Or.inr rfl, fun j hj => absurd hj (Nat.not_lt_zero j), ⟨fun _ => rfl, fun _ => rfl⟩⟩
def pvP (pv : Nat → Nat) : Nat → Int32 := fun j => if j < 8 then nI (pv j) else 0
theorem rpN_cR {s : sS} {r : Nat} {P : Nat → Int32} : cR (rpN s r P 8) = cR s := by
  unfold cR
  rw [rpN_out (q := 5) (by omega) 8 (Nat.le_refl 8)]
theorem rpN_pv {s : sS} {r : Nat} {pv : Nat → Nat} : ∀ j, j < 8 → rpN s r (pvP pv) 8 (55 + (8 * r + j)) = nI (pv j) := fun j hj => by
  rw [rpN_at 8 hj]
  exact if_pos hj
theorem P_doughEnd {N : Nat} {σ : xSt} {H : List sS} {s : sS} {T : Nat → Int32} (h : RX σ (H, s, T, 0)) (hG : GH N (H, s, T, 0)) {r : Nat} (hr : r < cR s) {pv : Nat → Nat} {m : Nat} {t : Nat → Nat} (hI : IM 8 pv m t) (hv : ∀ j, pv j < 100) (hS : 0 < sN pv 8) {rd : Nat → Int32} (hrd : ∀ j, j < 8 → rd j = nI (pv j)) {k16 : Int32 → xSt → Option (Int32 × xSt)} (n : Nat) : ∃ σ' T', RX σ' (kp H s, rpN s r (pvP pv) 8, T', 0) ∧ GH (N + 1) (kp H s, rpN s r (pvP pv) 8, T', 0) ∧ kX σ σ' ∧ fL_areMade_c178 k16 (n + 1) (nI r) (nI (sN pv 8)) (nI 8) rd m t σ = k16 (nI (r + 1)) σ' := by
  have hm : m ≤ 48 := by
    have := hI.2.1
    omega
  obtain ⟨σ1, tx, e1, h1, k1, l1, c1⟩ := P_type hm hI.2.2.1 h
  obtain ⟨σ2, h2, k2, e2⟩ := P_fault h1
  have q1 := rd_IM (T := tx.1) hI hv hS c1
  rw [← l1] at q1
  have hG2 : GH N (H, s, tx) := hG
  obtain ⟨σ3, h3, g3, k3, e3⟩ := P_readParts (r := r) h2 hG2 hr q1
  obtain ⟨σ4, h4, k4, e4⟩ := P_fault h3
  obtain ⟨x, σ5, hx, e5, k5⟩ := P_next σ4 (n := 5000) (by omega) (by omega)
  have e5 : fX12_next 5000 σ4 = some (nI x, σ5) := e5
  have h5 := k53.RX k5 h4
  have hr3 : r < cR (rpN s r (pvP pv) 8) := by rw [rpN_cR]; exact hr
  obtain ⟨σ6, h6, k6, e6⟩ := P_shares (G := x + 1) (k16 := k16) (rd := rd) g3 hr3 (by omega) rpN_pv hv hS hrd 8 0 9 σ5 (by omega) (by omega) h5
  refine ⟨σ6, tx.1, h6, g3, (k1.x.tr (k2.x.tr (k3.x.tr (k4.x.tr ((k53.x k5).tr k6.x))))), ?_⟩
  have z0 : nI ((x + 1) * sN pv 0 / sN pv 8) = 0 := by
    show nI ((x + 1) * 0 / sN pv 8) = 0
    rw [Nat.mul_zero, Nat.zero_div]
    rfl
  rw [z0] at e6
  have z1 : pu (rpN s r (pvP pv) 8) r 8 = nI (sN pv 8) := pu_sN 8 rpN_pv
  have z2 : ∀ {β : Type} (K : Int32 → xSt → Option β), xco (fX11_readParts (nI r) σ2) σ2 K = K (nI (sN pv 8)) σ3 := fun K => by
    rw [← z1]
    exact e3 K
  rw [fL_areMade_c178_s, if_pos (by decide), xc2_s e1, e2, show (H, s, tx).2.2.1 = tx.1 from rfl, show (H, s, tx).2.2.2 = tx.2 from rfl, q1, if_pos rfl, z2, if_pos rfl, e4, if_pos (rd_empty _), xc2_s e5]
  unfold xl
  dsimp only
  rw [show 1 + nI x = nI (x + 1) by rw [nI_succ, Int32.add_comm]]
  exact e6
theorem P_dough {N : Nat} {σ : xSt} {H : List sS} {s : sS} {T : Nat → Int32} (h : RX σ (H, s, T, 0)) (hG : GH N (H, s, T, 0)) {r : Nat} (hr : r < cR s) {k16 : Int32 → xSt → Option (Int32 × xSt)} : ∃ pv σ' T', (∀ j, pv j < 100) ∧ 0 < sN pv 8 ∧ RX σ' (kp H s, rpN s r (pvP pv) 8, T', 0) ∧ GH (N + 1) (kp H s, rpN s r (pvP pv) 8, T', 0) ∧ kX σ σ' ∧ fL_areMade_c178 k16 xF9 (nI r) 0 0 (fun _ => 0) 0 (fun _ => 0) σ = k16 (nI (r + 1)) σ' := by
  obtain ⟨pv, σ1, rd1, m, t, hv, hS, hI, hrd, k1, e1⟩ := P_partsL (r := r) (k16 := k16) 1 8 0 σ (fun _ => 0) 0 (fun _ => 0) (fun _ => 0) (by omega) (fun _ => by omega) (fun z => by omega) IM_0 (fun j hj => by omega)
  obtain ⟨σ2, T2, h2, g2, k2, e2⟩ := P_doughEnd (k16 := k16) (k53.RX k1 h) hG hr hI hv hS hrd 0
  exact ⟨pv, σ2, T2, hv, hS, h2, g2, (k53.x k1).tr k2, e1.trans e2⟩
