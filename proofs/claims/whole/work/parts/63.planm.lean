/-! ===== THE PLAN: the model's side ===== -/
def fM (σ σ' : xSt) : Prop := ∀ q, q < 4 → σ' q = σ q
theorem fM.refl (σ : xSt) : fM σ σ := fun _ _ => rfl
theorem fM.trans {a b c : xSt} (h : fM a b) (h2 : fM b c) : fM a c := fun q hq => (h2 q hq).trans (h q hq)
theorem fM.xu {σ σ' : xSt} (h : fM σ σ') (q k : Nat) (v : Int32) (hq : 4 ≤ q) : fM σ (xu σ' q k v) := fun q' hq' => (xu_ne _ _ _ (by omega)).trans (h q' hq')
theorem RM.scr {σ σ' : xSt} {a : xA} (h : RM σ a) (f : fM σ σ') : RM σ' a := h.frame (f 1 (by decide)) (f 2 (by decide)) (f 3 (by decide)) (by rw [f 0 (by decide)]) (by rw [f 0 (by decide)]) (by rw [f 0 (by decide)])
def encL (x : Int) : Int := if x = 1000000 then 2000000000 else x
def mF (s : sS) (k : Nat) : Int := if plF s k ≤ plL s k then plF s k else -1
theorem M_bEnd {N : Nat} {σ : xSt} {H : List sS} {s : sS} {tx : (Nat → Int32) × Nat} (h : RM σ (H, s, tx)) (hI : Inv N s) {k : Nat} (hk : k < cD s) (hF : s (163 + k) = 0 ∨ s (163 + k) = 1 → (σ 6 k).toInt = plF s k) (hL : (s (163 + k) = 1 → (σ 7 k).toInt = plL s k) ∧ (s (163 + k) = 0 → 0 < (gn s).toInt → (σ 7 k).toInt = plL s k) ∧ (s (163 + k) = 0 → ¬ 0 < (gn s).toInt → (σ 7 k).toInt = 2000000000)) : ∃ σ', fX12_bounds_c180 (nI k) (gn s) σ = some σ' ∧ (∀ q, q ≠ 6 → q ≠ 7 → σ' q = σ q) ∧ (∀ j, j ≠ k → σ' 6 j = σ 6 j ∧ σ' 7 j = σ 7 j) ∧ (σ' 6 k).toInt = mF s k ∧ (plF s k ≤ plL s k → (σ' 7 k).toInt = encL (plL s k)) := by
  have hcD := hI.caps.2.1
  have hr := drc_lt hI.caps hk
  have hcR := hI.caps.1
  have pb := pl_b hI hk
  have o := hI.oven.1
  unfold bt at o
  have no : (¬ plF s k ≤ plL s k) → ∃ σ', fX12_bounds_c234 (nI k) σ = some σ' ∧ (∀ q, q ≠ 6 → q ≠ 7 → σ' q = σ q) ∧ (∀ j, j ≠ k → σ' 6 j = σ 6 j ∧ σ' 7 j = σ 7 j) ∧ (σ' 6 k).toInt = mF s k ∧ (plF s k ≤ plL s k → (σ' 7 k).toInt = encL (plL s k)) := fun hn => by
    unfold fX12_bounds_c234 fX12_bounds_c235
    rw [if_pos rfl, xs_n (by omega) (by decide)]
    refine ⟨_, rfl, fun q h6 h7 => xu_ne _ _ _ h6, fun j hj => ⟨by rw [xu_at, upd_ne _ _ hj], by rw [xu_ne _ _ _ (by decide)]⟩, ?_, fun h9 => absurd h9 hn⟩
    rw [xu_at, upd_at]
    unfold mF
    rw [if_neg hn]; decide
  have yes : (plF s k ≤ plL s k) → (σ 6 k).toInt = plF s k → (σ 7 k).toInt = encL (plL s k) → ∃ σ', fX12_bounds_c230 (nI k) σ = some σ' ∧ (∀ q, q ≠ 6 → q ≠ 7 → σ' q = σ q) ∧ (∀ j, j ≠ k → σ' 6 j = σ 6 j ∧ σ' 7 j = σ 7 j) ∧ (σ' 6 k).toInt = mF s k ∧ (plF s k ≤ plL s k → (σ' 7 k).toInt = encL (plL s k)) := fun hp h6 h7 => by
    unfold fX12_bounds_c230 fX12_bounds_c235
    rw [if_neg (by decide), xr_n (by omega) (by decide), xs_n (by omega) (by decide)]
    refine ⟨_, rfl, fun q h6 h7 => xu_ne _ _ _ h6, fun j hj => ⟨by rw [xu_at, upd_ne _ _ hj], by rw [xu_ne _ _ _ (by decide)]⟩, ?_, fun _ => by rw [xu_ne _ _ _ (by decide)]; exact h7⟩
    rw [xu_at, upd_at, h6]
    unfold mF
    rw [if_pos hp]
  have a1 : σ 1 (163 + k) = s (163 + k) := M_at2 h (by omega)
  have elt : plL s k ≤ (s 0).toInt + 200 → encL (plL s k) = plL s k := fun h9 => if_neg (by omega)
  unfold fX12_bounds_c180
  rw [M_isAtHand h (by omega), xc2_t, x_i10]
  by_cases c0 : s (163 + k) = 0 ∨ s (163 + k) = 1
  · rw [if_pos c0, xr_n (by omega) (by decide), xr_n (by omega) (by decide)]
    have h6 := hF c0
    by_cases c1 : s (163 + k) = 1
    · have h7 := hL.1 c1
      have nf : plL s k ≤ (s 0).toInt + 200 := by
        rcases pb.2.2.2 with h9 | h9
        · exact h9
        · exfalso
          have e : plL s k = (s (183 + k)).toInt + (s (49 + drc s k)).toInt := if_pos c1
          have a4 := (hI.dough k hk).2.2.2.1.1
          have b6 := (hI.rec.1 _ hr).2.2.2.2.2
          unfold bt at a4 b6
          omega
      by_cases c2 : plF s k ≤ plL s k
      · rw [if_neg (show ¬ σ 7 k < σ 6 k from fun h9 => by rw [fa_lt, h6, h7] at h9; omega), show (163 : Int32) = nI 163 from rfl, nI_add, xr_n (by omega) (by decide), a1, if_pos c1]
        exact yes c2 h6 (by rw [h7, elt nf])
      · rw [if_pos (show σ 7 k < σ 6 k from (fa_lt _ _).mpr (by rw [h6, h7]; omega))]
        exact no c2
    · have c00 : s (163 + k) = 0 := by
        rcases c0 with c0 | c0
        · exact c0
        · exact absurd c0 c1
      by_cases c3 : 0 < (gn s).toInt
      · have h7 := hL.2.1 c00 c3
        have nf : plL s k ≤ (s 0).toInt + 200 := by
          rcases pb.2.2.2 with h9 | h9
          · exact h9
          · exfalso
            have e : plL s k = if 0 ≤ (s (31 + drc s k)).toInt - (s (143 + k)).toInt then (if 0 < (gn s).toInt then (s 0).toInt + ((s (31 + drc s k)).toInt - (s (143 + k)).toInt) / (gn s).toInt else if (s (25 + drc s k)).toInt - (s (143 + k)).toInt ≤ 0 then 1000000 else -1) else -1 := by
              unfold plL
              rw [if_neg c1, if_pos c00]
            have b3 := (hI.rec.1 _ hr).2.2.1
            have a5 := (hI.dough k hk).2.2.2.1.2
            unfold bt at b3 a5
            by_cases c4 : 0 ≤ (s (31 + drc s k)).toInt - (s (143 + k)).toInt
            · rw [if_pos c4, if_pos c3] at e
              have := Int.ediv_le_self (gn s).toInt c4
              omega
            · rw [if_neg c4] at e; omega
        by_cases c2 : plF s k ≤ plL s k
        · rw [if_neg (show ¬ σ 7 k < σ 6 k from fun h9 => by rw [fa_lt, h6, h7] at h9; omega), show (163 : Int32) = nI 163 from rfl, nI_add, xr_n (by omega) (by decide), a1, if_neg c1, if_pos (show (0 : Int32) < gn s from (fa_lt _ _).mpr c3)]
          exact yes c2 h6 (by rw [h7, elt nf])
        · rw [if_pos (show σ 7 k < σ 6 k from (fa_lt _ _).mpr (by rw [h6, h7]; omega))]
          exact no c2
      · have h7 := hL.2.2 c00 c3
        rw [if_neg (show ¬ σ 7 k < σ 6 k from fun h9 => by rw [fa_lt, h6, h7] at h9; omega), show (163 : Int32) = nI 163 from rfl, nI_add, xr_n (by omega) (by decide), a1, if_neg c1, if_neg (show ¬ (0 : Int32) < gn s from fun h9 => c3 ((fa_lt _ _).mp h9)), M_isRipe h hI hk, xc2_t, x_i10]
        have eL : plL s k = if 0 ≤ (s (31 + drc s k)).toInt - (s (143 + k)).toInt then (if (s (25 + drc s k)).toInt - (s (143 + k)).toInt ≤ 0 then 1000000 else -1) else -1 := by
          unfold plL
          rw [if_neg c1, if_pos c00, if_neg c3]
        by_cases c5 : s (25 + drc s k) ≤ s (143 + k) ∧ s (143 + k) ≤ s (31 + drc s k)
        · rw [if_pos c5]
          rw [fa_le, fa_le] at c5
          rw [if_pos (by omega), if_pos (by omega)] at eL
          exact yes (by rw [eL]; omega) h6 (by rw [h7, eL]; rfl)
        · rw [if_neg c5]
          rw [fa_le, fa_le] at c5
          refine no (fun h9 => ?_)
          rw [eL] at h9
          by_cases c6 : 0 ≤ (s (31 + drc s k)).toInt - (s (143 + k)).toInt
          · rw [if_pos c6, if_neg (by omega)] at h9; omega
          · rw [if_neg c6] at h9; omega
  · rw [if_neg c0]
    refine no (fun h9 => ?_)
    have e : plL s k = -1 := by
      unfold plL
      rw [if_neg (fun h8 => c0 (Or.inr h8)), if_neg (fun h8 => c0 (Or.inl h8))]
    omega
theorem M_bounds {N : Nat} {σ : xSt} {H : List sS} {s : sS} {tx : (Nat → Int32) × Nat} (h : RM σ (H, s, tx)) (hI : Inv N s) {k : Nat} (hk : k < cD s) : ∃ σ', fX12_bounds (nI k) σ = some σ' ∧ (∀ q, q ≠ 6 → q ≠ 7 → σ' q = σ q) ∧ (∀ j, j ≠ k → σ' 6 j = σ 6 j ∧ σ' 7 j = σ 7 j) ∧ (σ' 6 k).toInt = mF s k ∧ (plF s k ≤ plL s k → (σ' 7 k).toInt = encL (plL s k)) := by
  have hcD := hI.caps.2.1
  have hr := drc_lt hI.caps hk
  have hcR := hI.caps.1
  have pb := pl_b hI hk
  obtain ⟨a1, a2, a3, ⟨a4, a5⟩, a6, a7⟩ := hI.dough k hk
  obtain ⟨b1, b2, b3, b4, b5, b6⟩ := hI.rec.1 _ hr
  have o := hI.oven.1
  have g := gn_b s
  unfold bt at a4 a5 b2 b3 b6 o
  have m1 : σ 1 (103 + k) = nI (drc s k) := (M_at2 h (by omega)).trans (drc_eq hI hk)
  have m2 : σ 1 (143 + k) = s (143 + k) := M_at2 h (by omega)
  have m0 : σ 1 0 = s 0 := M_at2 h (by omega)
  unfold fX12_bounds
  rw [show (103 : Int32) = nI 103 from rfl, nI_add, xr_n (by omega) (by decide), m1, show (143 : Int32) = nI 143 from rfl, nI_add, xr_n (by omega) (by decide), m2, M_gain h hI.oven.2.1, xc2_t, show (0 : Int32) = nI 0 from rfl, xr_n (by decide) (by decide), m0, xs_n (by omega) (by decide), xs_n (by omega) (by decide)]
  generalize hu : xu (xu σ 6 k (s 0)) 7 k 2000000000 = u
  have fu : fM σ u := by rw [← hu]; exact ((fM.refl σ).xu 6 k _ (by decide)).xu 7 k _ (by decide)
  have hx := h.scr fu
  have u1 : ∀ q, q ≠ 6 → q ≠ 7 → u q = σ q := fun q h1 h2 => by rw [← hu, xu_ne _ _ _ h2, xu_ne _ _ _ h1]
  have u2 : ∀ j, j ≠ k → u 6 j = σ 6 j ∧ u 7 j = σ 7 j := fun j hj => by
    rw [← hu]
    exact ⟨by rw [xu_ne _ _ _ (by decide), xu_at, upd_ne _ _ hj], by rw [xu_at, upd_ne _ _ hj, xu_ne _ _ _ (by decide)]⟩
  have u3 : u 6 k = s 0 := by rw [← hu, xu_ne _ _ _ (by decide), xu_at, upd_at]
  have u4 : u 7 k = 2000000000 := by rw [← hu, xu_at, upd_at]
  have v1 : u 1 (163 + k) = s (163 + k) := M_at2 hx (by omega)
  have v2 : u 1 (183 + k) = s (183 + k) := M_at2 hx (by omega)
  have v3 : u 1 (49 + drc s k) = s (49 + drc s k) := M_at2 hx (by omega)
  have v4 : u 1 (25 + drc s k) = s (25 + drc s k) := M_at2 hx (by omega)
  have fin : ∀ w : xSt, RM w (H, s, tx) → (∀ q, q ≠ 6 → q ≠ 7 → w q = u q) → (∀ j, j ≠ k → w 6 j = u 6 j ∧ w 7 j = u 7 j) → (s (163 + k) = 0 ∨ s (163 + k) = 1 → (w 6 k).toInt = plF s k) → ((s (163 + k) = 1 → (w 7 k).toInt = plL s k) ∧ (s (163 + k) = 0 → 0 < (gn s).toInt → (w 7 k).toInt = plL s k) ∧ (s (163 + k) = 0 → ¬ 0 < (gn s).toInt → (w 7 k).toInt = 2000000000)) → ∃ σ', fX12_bounds_c180 (nI k) (gn s) w = some σ' ∧ (∀ q, q ≠ 6 → q ≠ 7 → σ' q = σ q) ∧ (∀ j, j ≠ k → σ' 6 j = σ 6 j ∧ σ' 7 j = σ 7 j) ∧ (σ' 6 k).toInt = mF s k ∧ (plF s k ≤ plL s k → (σ' 7 k).toInt = encL (plL s k)) := fun w hw w1 w2 w3 w4 => by
    obtain ⟨σ', e1, e2, e3, e4, e5⟩ := M_bEnd hw hI hk w3 w4
    exact ⟨σ', e1, fun q h1 h2 => (e2 q h1 h2).trans ((w1 q h1 h2).trans (u1 q h1 h2)), fun j hj => ⟨(e3 j hj).1.trans ((w2 j hj).1.trans (u2 j hj).1), (e3 j hj).2.trans ((w2 j hj).2.trans (u2 j hj).2)⟩, e4, e5⟩
  rw [show (163 : Int32) = nI 163 from rfl, nI_add, xr_n (by omega) (by decide), v1]
  by_cases c1 : s (163 + k) = 1
  · have c0 : ¬ s (163 + k) = 0 := by rw [c1]; decide
    rw [if_pos c1, show (183 : Int32) = nI 183 from rfl, nI_add, xr_n (by omega) (by decide), v2, show (49 : Int32) = nI 49 from rfl, nI_add, xr_n (by omega) (by decide), v3, xs_n (by omega) (by decide)]
    refine fin _ (hx.scr ((fM.refl u).xu 7 k _ (by decide))) (fun q h6 h7 => xu_ne _ _ _ h7) (fun j hj => ⟨by rw [xu_ne _ _ _ (by decide)], by rw [xu_at, upd_ne _ _ hj]⟩) (fun _ => ?_) ⟨fun _ => ?_, fun h9 => absurd h9 c0, fun h9 => absurd h9 c0⟩
    · rw [xu_ne _ _ _ (by decide), u3]
      unfold plF
      rw [if_neg (fun h9 => c0 h9.1)]
    · rw [xu_at, upd_at, i32_add (by omega) (by omega)]
      unfold plL
      rw [if_pos c1]
  · rw [if_neg c1]
    by_cases c3 : 0 < (gn s).toInt
    · rw [if_neg (show ¬ gn s ≤ nI 0 from fun h9 => by rw [fa_le] at h9; have h9 : _ ≤ (0 : Int) := h9; omega), show (25 : Int32) = nI 25 from rfl, nI_add, xr_n (by omega) (by decide), v4, xl_t, xr_n (by omega) (by decide), u3]
      have nz : ¬ gn s = 0 := fun h9 => by rw [h9] at c3; exact absurd c3 (by decide)
      have t1 : (s (25 + drc s k) - s (143 + k)).toInt = (s (25 + drc s k)).toInt - (s (143 + k)).toInt := i32_sub (by omega) (by omega)
      have t2 : (s (31 + drc s k) - s (143 + k)).toInt = (s (31 + drc s k)).toInt - (s (143 + k)).toInt := i32_sub (by omega) (by omega)
      -- what c134 does with a lack of t0
      have rest : ∀ t0 : Int32, 0 ≤ t0.toInt → t0.toInt ≤ 1000 → (s (163 + k) = 0 → plF s k = (s 0).toInt + t0.toInt) → ∃ σ', fX12_bounds_c134 (nI k) (nI (drc s k)) (s (143 + k)) (gn s) t0 (s 0) (nI k) u = some σ' ∧ (∀ q, q ≠ 6 → q ≠ 7 → σ' q = σ q) ∧ (∀ j, j ≠ k → σ' 6 j = σ 6 j ∧ σ' 7 j = σ 7 j) ∧ (σ' 6 k).toInt = mF s k ∧ (plF s k ≤ plL s k → (σ' 7 k).toInt = encL (plL s k)) := fun t0 q1 q2 q3 => by
        unfold fX12_bounds_c134
        rw [xs_n (by omega) (by decide)]
        generalize hw : xu u 6 k (s 0 + t0) = w
        have fw : fM u w := by rw [← hw]; exact (fM.refl u).xu 6 k _ (by decide)
        have hxw := hx.scr fw
        have x1 : w 1 (31 + drc s k) = s (31 + drc s k) := M_at2 hxw (by omega)
        have x0 : w 1 0 = s 0 := M_at2 hxw (by omega)
        have w6 : w 6 k = s 0 + t0 := by rw [← hw, xu_at, upd_at]
        have w6t : (s 0 + t0).toInt = (s 0).toInt + t0.toInt := i32_add (by omega) (by omega)
        have ww : ∀ q, q ≠ 6 → w q = u q := fun q hq => by rw [← hw, xu_ne _ _ _ hq]
        have wj : ∀ j, j ≠ k → w 6 j = u 6 j := fun j hj => by rw [← hw, xu_at, upd_ne _ _ hj]
        rw [show (31 : Int32) = nI 31 from rfl, nI_add, xr_n (by omega) (by decide), x1]
        by_cases c4 : s (143 + k) ≤ s (31 + drc s k)
        · have c4' : 0 ≤ (s (31 + drc s k)).toInt - (s (143 + k)).toInt := by rw [fa_le] at c4; omega
          have t6 : ((s (31 + drc s k) - s (143 + k)) / gn s).toInt = ((s (31 + drc s k)).toInt - (s (143 + k)).toInt) / (gn s).toInt := by rw [i32_div (by rw [t2]; omega) c3, t2]
          have u6 : ((s (31 + drc s k)).toInt - (s (143 + k)).toInt) / (gn s).toInt ≤ (s (31 + drc s k)).toInt - (s (143 + k)).toInt := Int.ediv_le_self _ c4'
          have u6' : 0 ≤ ((s (31 + drc s k)).toInt - (s (143 + k)).toInt) / (gn s).toInt := Int.ediv_nonneg c4' (by omega)
          rw [if_pos c4, show (0 : Int32) = nI 0 from rfl, xr_n (by decide) (by decide), x0, xr_n (by omega) (by decide), x1, xnz_t nz]
          unfold fX12_bounds_c179
          rw [xs_n (by omega) (by decide)]
          refine fin _ (hxw.scr ((fM.refl w).xu 7 k _ (by decide))) (fun q h6 h7 => (xu_ne _ _ _ h7).trans (ww q h6)) (fun j hj => ⟨by rw [xu_ne _ _ _ (by decide)]; exact wj j hj, by rw [xu_at, upd_ne _ _ hj, ww 7 (by decide)]⟩) (fun h9 => ?_) ⟨fun h9 => absurd h9 c1, fun h9 _ => ?_, fun _ h8 => absurd c3 h8⟩
          · rw [xu_ne _ _ _ (by decide), w6, w6t]
            rcases h9 with h9 | h9
            · exact (q3 h9).symm
            · exact absurd h9 c1
          · rw [xu_at, upd_at, i32_add (by rw [t6]; omega) (by rw [t6]; omega), t6]
            unfold plL
            rw [if_neg c1, if_pos h9, if_pos c4', if_pos c3]
        · have c4' : ¬ 0 ≤ (s (31 + drc s k)).toInt - (s (143 + k)).toInt := by rw [fa_le] at c4; omega
          rw [if_neg c4]
          unfold fX12_bounds_c179
          rw [xs_n (by omega) (by decide)]
          have eL : s (163 + k) = 0 → plL s k = -1 := fun h9 => by
            unfold plL
            rw [if_neg c1, if_pos h9, if_neg c4']
          have hF : s (163 + k) = 0 ∨ s (163 + k) = 1 → ((xu w 7 k (-1)) 6 k).toInt = plF s k := fun h9 => by
            rw [xu_ne _ _ _ (by decide), w6, w6t]
            rcases h9 with h9 | h9
            · exact (q3 h9).symm
            · exact absurd h9 c1
          exact fin (xu w 7 k (-1)) (hxw.scr ((fM.refl w).xu 7 k _ (by decide))) (fun q h6 h7 => (xu_ne _ _ _ h7).trans (ww q h6)) (fun j hj => ⟨by rw [xu_ne _ _ _ (by decide)]; exact wj j hj, by rw [xu_at, upd_ne _ _ hj, ww 7 (by decide)]⟩) hF ⟨fun h9 => absurd h9 c1, fun h9 _ => by rw [xu_at, upd_at, eL h9]; decide, fun _ h8 => absurd c3 h8⟩
      by_cases c5 : s (25 + drc s k) - s (143 + k) ≤ nI 0
      · rw [if_pos c5]
        rw [fa_le, t1] at c5
        have c5 : (s (25 + drc s k)).toInt - (s (143 + k)).toInt ≤ (0 : Int) := c5
        refine rest 0 (by decide) (by decide) (fun c0 => ?_)
        show plF s k = (s 0).toInt + 0
        unfold plF
        by_cases c6 : 0 ≤ (s (31 + drc s k)).toInt - (s (143 + k)).toInt
        · rw [if_pos (show s (163 + k) = 0 ∧ 0 ≤ (s (31 + drc s k)).toInt - (s (143 + k)).toInt ∧ 0 < (gn s).toInt from ⟨c0, c6, c3⟩)]
          have e : (if (s (25 + drc s k)).toInt - (s (143 + k)).toInt < 0 then 0 else (s (25 + drc s k)).toInt - (s (143 + k)).toInt) = 0 := by split <;> omega
          rw [e, Int.ediv_eq_zero_of_lt (by omega) (by omega)]
        · rw [if_neg (fun h9 => c6 h9.2.1), Int.add_zero]
      · rw [if_neg c5, xnz_t nz]
        rw [fa_le, t1] at c5
        have c5 : ¬ (s (25 + drc s k)).toInt - (s (143 + k)).toInt ≤ (0 : Int) := c5
        have t3 : (s (25 + drc s k) - s (143 + k) + gn s).toInt = (s (25 + drc s k)).toInt - (s (143 + k)).toInt + (gn s).toInt := by rw [i32_add (by rw [t1]; omega) (by rw [t1]; omega), t1]
        have t4 : (s (25 + drc s k) - s (143 + k) + gn s - 1).toInt = (s (25 + drc s k)).toInt - (s (143 + k)).toInt + (gn s).toInt - 1 := by
          rw [i32_sub (by rw [t3]; show _ ≤ (_ : Int) - 1; omega) (by rw [t3]; show (_ : Int) - 1 < _; omega), t3]; rfl
        have t5 : ((s (25 + drc s k) - s (143 + k) + gn s - 1) / gn s).toInt = ((s (25 + drc s k)).toInt - (s (143 + k)).toInt + (gn s).toInt - 1) / (gn s).toInt := by rw [i32_div (by rw [t4]; omega) c3, t4]
        have u5 : ((s (25 + drc s k)).toInt - (s (143 + k)).toInt + (gn s).toInt - 1) / (gn s).toInt ≤ (s (25 + drc s k)).toInt - (s (143 + k)).toInt + (gn s).toInt - 1 := Int.ediv_le_self _ (by omega)
        have u5' : 0 ≤ ((s (25 + drc s k)).toInt - (s (143 + k)).toInt + (gn s).toInt - 1) / (gn s).toInt := Int.ediv_nonneg (by omega) (by omega)
        refine rest _ (by rw [t5]; exact u5') (by rw [t5]; omega) (fun c0 => ?_)
        have eF : plF s k = (s 0).toInt + ((if (s (25 + drc s k)).toInt - (s (143 + k)).toInt < 0 then 0 else (s (25 + drc s k)).toInt - (s (143 + k)).toInt) + (gn s).toInt - 1) / (gn s).toInt := if_pos ⟨c0, by omega, c3⟩
        rw [eF, if_neg (by omega), t5]
    · rw [if_pos (show gn s ≤ nI 0 from (fa_le _ _).mpr (by show _ ≤ (0 : Int); omega))]
      refine fin u hx (fun _ _ _ => rfl) (fun _ _ => ⟨rfl, rfl⟩) (fun _ => ?_) ⟨fun h9 => absurd h9 c1, fun _ h8 => absurd h8 c3, fun _ _ => by rw [u4]; decide⟩
      rw [u3]
      unfold plF
      rw [if_neg (fun h9 => c3 h9.2.2)]
def mP (s : sS) (σ : xSt) (R : Nat → Int32) : Prop := (∀ k, k < cD s → (σ 6 k).toInt = mF s k ∧ (plF s k ≤ plL s k → (σ 7 k).toInt = encL (plL s k))) ∧ ∀ k, k < cD s → σ 8 k = R k
theorem mF_m1 {N : Nat} {s : sS} (hI : Inv N s) {k : Nat} (hk : k < cD s) : mF s k = -1 ↔ ¬ plF s k ≤ plL s k := by
  have pb := pl_b hI hk
  have o := hI.oven.1
  unfold bt at o
  unfold mF
  by_cases g : plF s k ≤ plL s k
  · rw [if_pos g]
    exact ⟨fun h9 => by omega, fun h9 => absurd g h9⟩
  · rw [if_neg g]
    exact ⟨fun _ => g, fun _ => rfl⟩
theorem m6_iff {N : Nat} {s : sS} {σ : xSt} {R : Nat → Int32} (hI : Inv N s) (hP : mP s σ R) {k : Nat} (hk : k < cD s) : σ 6 k = -1 ↔ ¬ plF s k ≤ plL s k := by
  rw [fa_eq, (hP.1 k hk).1, show (-1 : Int32).toInt = -1 by decide]
  exact mF_m1 hI hk
theorem encL_b {b : Nat} (hb : b < 1000000) (x : Int) : (b : Int) ≤ encL x ↔ (b : Int) ≤ x := by
  unfold encL
  split <;> omega
theorem encL_le {x y : Int} (hx : x ≤ 1000000) (hy : y ≤ 1000000) : encL x ≤ encL y ↔ x ≤ y := by
  unfold encL
  split <;> split <;> omega
theorem plL_le {N : Nat} {s : sS} (hI : Inv N s) {k : Nat} (hk : k < cD s) : plL s k ≤ 1000000 := by
  have pb := pl_b hI hk
  have o := hI.oven.1
  unfold bt at o
  omega
theorem M_next {N : Nat} {σ : xSt} {H : List sS} {s : sS} {tx : (Nat → Int32) × Nat} (h : RM σ (H, s, tx)) (hI : Inv N s) {R : Nat → Int32} (hP : mP s σ R) {b : Nat} (hb : b < 1000000) : ∀ (d i n : Nat), i + d = cD s → d < n → fX12_nextOf_c4 n (nI b) (enc (nxS (plF s) (plL s) R b i)) (nI i) σ = some (enc (nxS (plF s) (plL s) R b (cD s)), σ) := by
  have hcD := hI.caps.2.1
  have a6 : σ 1 6 = nI (cD s) := (M_at2 h (by decide)).trans hI.caps.2.2.2.2.2.2.1
  intro d
  induction d with
  | zero =>
    intro i n hi hn
    obtain ⟨n, rfl⟩ : ∃ z, n = z + 1 := ⟨n - 1, by omega⟩
    obtain rfl : i = cD s := by omega
    rw [fX12_nextOf_c4_s, show (6 : Int32) = nI 6 from rfl, xr_n (by decide) (by decide), a6, if_pos (nI_le (Nat.le_refl _) (by omega))]
  | succ d ih =>
    intro i n hi hn
    obtain ⟨n, rfl⟩ : ∃ z, n = z + 1 := ⟨n - 1, by omega⟩
    have ih := ih (i + 1) n (by omega) (by omega)
    have hi' : i < cD s := by omega
    obtain ⟨p1, p2⟩ := hP.1 i hi'
    have p3 := hP.2 i hi'
    have es : nxS (plF s) (plL s) R b (i + 1) = if R i = -1 ∧ plF s i ≤ b ∧ (b : Int) ≤ plL s i then (match nxS (plF s) (plL s) R b i with | none => some i | some j => if plL s j ≤ plL s i then some j else some i) else nxS (plF s) (plL s) R b i := rfl
    have skip : nxS (plF s) (plL s) R b (i + 1) = nxS (plF s) (plL s) R b i → fX12_nextOf_c58 (fX12_nextOf_c4 n) (nI b) (enc (nxS (plF s) (plL s) R b i)) (nI i) σ = some (enc (nxS (plF s) (plL s) R b (cD s)), σ) := fun e => by
      rw [e] at ih
      unfold fX12_nextOf_c58 fX12_nextOf_c59
      rw [if_pos rfl, xl_t, nI_1]
      exact ih
    rw [fX12_nextOf_c4_s, show (6 : Int32) = nI 6 from rfl, xr_n (by decide) (by decide), a6, if_neg (nI_ge (by omega) (by omega)), xr_n (by omega) (by decide)]
    by_cases c0 : plF s i ≤ plL s i
    · rw [if_neg (show ¬ σ 6 i = -1 from fun h9 => (m6_iff hI hP hi').mp h9 c0), xr_n (by omega) (by decide), p3]
      by_cases c1 : R i = -1
      · rw [if_pos c1, xr_n (by omega) (by decide), xr_n (by omega) (by decide), M_in, xc2_t, x_i10]
        have hc : (σ 6 i ≤ nI b ∧ nI b ≤ σ 7 i) ↔ (plF s i ≤ b ∧ (b : Int) ≤ plL s i) := by
          rw [fa_le, fa_le, p1, p2 c0, nI_toInt (by omega), encL_b hb]
          unfold mF
          rw [if_pos c0]
        by_cases c2 : plF s i ≤ b ∧ (b : Int) ≤ plL s i
        · rw [if_pos (show R i = -1 ∧ plF s i ≤ b ∧ (b : Int) ≤ plL s i from ⟨c1, c2⟩)] at es
          rw [if_pos (hc.mpr c2)]
          unfold fX12_nextOf_c59
          rw [if_neg (show ¬ (1 : Int32) = 0 by decide)]
          cases e : nxS (plF s) (plL s) R b i with
          | none =>
            rw [e] at es
            have es : nxS (plF s) (plL s) R b (i + 1) = some i := es
            rw [es] at ih
            rw [if_pos (show enc none = -1 from rfl), xl_t, nI_1]
            exact ih
          | some j =>
            rw [e] at es
            obtain ⟨j1, j2, -⟩ := nxS_some _ _ e
            have es : nxS (plF s) (plL s) R b (i + 1) = if plL s j ≤ plL s i then some j else some i := es
            rw [if_neg (show ¬ enc (some j) = -1 from nIm1 (by omega))]
            rw [xr_n (by omega) (by decide)]
            show xr σ 7 20 (nI j) _ = _
            rw [xr_n (by omega) (by decide)]
            have q2 := (hP.1 j (by omega)).2 (by omega)
            have hl : σ 7 j ≤ σ 7 i ↔ plL s j ≤ plL s i := by
              rw [fa_le, p2 c0, q2]
              exact encL_le (plL_le hI (by omega)) (plL_le hI hi')
            by_cases c3 : plL s j ≤ plL s i
            · rw [if_pos c3] at es
              rw [es] at ih
              rw [if_pos (hl.mpr c3), xl_t, nI_1]
              exact ih
            · rw [if_neg c3] at es
              rw [es] at ih
              rw [if_neg (fun h9 => c3 (hl.mp h9)), xl_t, nI_1]
              exact ih
        · rw [if_neg (fun h9 => c2 (hc.mp h9))]
          exact skip (es.trans (if_neg (fun h9 => c2 h9.2)))
      · rw [if_neg c1]
        exact skip (es.trans (if_neg (fun h9 => c1 h9.1)))
    · rw [if_pos ((m6_iff hI hP hi').mpr c0)]
      exact skip (es.trans (if_neg (fun h9 => c0 (by omega))))
theorem M_isLeft {N : Nat} {σ : xSt} {H : List sS} {s : sS} {tx : (Nat → Int32) × Nat} (h : RM σ (H, s, tx)) (hI : Inv N s) {R : Nat → Int32} (hP : mP s σ R) {b : Nat} (hb : b < 1000000) : ∀ (d i n : Nat), i + d = cD s → d < n → (∀ k, k < i → ¬ (plF s k ≤ plL s k ∧ R k = -1 ∧ (b : Int) ≤ plL s k)) → (lft (plF s) (plL s) R (cD s) b → fX12_isLeft_c2 n (nI b) (nI i) σ = some (1, σ)) ∧ (¬ lft (plF s) (plL s) R (cD s) b → fX12_isLeft_c2 n (nI b) (nI i) σ = some (0, σ)) := by
  have hcD := hI.caps.2.1
  have a6 : σ 1 6 = nI (cD s) := (M_at2 h (by decide)).trans hI.caps.2.2.2.2.2.2.1
  intro d
  induction d with
  | zero =>
    intro i n hi hn hk
    obtain ⟨n, rfl⟩ : ∃ z, n = z + 1 := ⟨n - 1, by omega⟩
    obtain rfl : i = cD s := by omega
    rw [fX12_isLeft_c2_s, show (6 : Int32) = nI 6 from rfl, xr_n (by decide) (by decide), a6, if_pos (nI_le (Nat.le_refl _) (by omega))]
    exact ⟨fun ⟨k, k1, k2⟩ => absurd k2 (hk k k1), fun _ => rfl⟩
  | succ d ih =>
    intro i n hi hn hk
    obtain ⟨n, rfl⟩ : ∃ z, n = z + 1 := ⟨n - 1, by omega⟩
    have hi' : i < cD s := by omega
    obtain ⟨p1, p2⟩ := hP.1 i hi'
    have p3 := hP.2 i hi'
    have ih := fun (hn' : ¬ (plF s i ≤ plL s i ∧ R i = -1 ∧ (b : Int) ≤ plL s i)) => ih (i + 1) n (by omega) (by omega) (fun k h9 => by
      by_cases e : k = i
      · rw [e]; exact hn'
      · exact hk k (by omega))
    rw [fX12_isLeft_c2_s, show (6 : Int32) = nI 6 from rfl, xr_n (by decide) (by decide), a6, if_neg (nI_ge (by omega) (by omega)), xr_n (by omega) (by decide)]
    by_cases c0 : plF s i ≤ plL s i
    · rw [if_neg (show ¬ σ 6 i = -1 from fun h9 => (m6_iff hI hP hi').mp h9 c0), xr_n (by omega) (by decide), p3]
      by_cases c1 : R i = -1
      · rw [if_pos c1, xr_n (by omega) (by decide)]
        have hl : σ 7 i < nI b ↔ ¬ (b : Int) ≤ plL s i := by
          rw [← encL_b hb, ← p2 c0, fa_lt, nI_toInt (by omega)]
          omega
        by_cases c2 : (b : Int) ≤ plL s i
        · rw [if_neg (fun h9 => hl.mp h9 c2)]
          exact ⟨fun _ => rfl, fun h9 => absurd ⟨i, hi', c0, c1, c2⟩ h9⟩
        · rw [if_pos (hl.mpr c2), xl_t, nI_1]
          exact ih (fun h9 => c2 h9.2.2)
      · rw [if_neg c1, xl_t, nI_1]
        exact ih (fun h9 => c1 h9.2.1)
    · rw [if_pos ((m6_iff hI hP hi').mpr c0), xl_t, nI_1]
      exact ih (fun h9 => c0 h9.1)
theorem grS_none {F L : Nat → Int} {R : Nat → Int32} {D b : Nat} (h : nxS F L R b D = none) : ∀ m, grS F L D b m R = R
  | 0 => rfl
  | m + 1 => by
    show (match nxS F L R b D with | none => R | some j => grS F L D b m (upd R j (nI b))) = R
    rw [h]
theorem M_give {N : Nat} {H : List sS} {s : sS} {tx : (Nat → Int32) × Nat} (hI : Inv N s) (k49 : Int32 → xSt → Option xSt) {b : Nat} (hb : b < 1000000) : ∀ (m a2 n : Nat) (σ : xSt) (R : Nat → Int32), a2 + m = (s 4).toInt.toNat → m < n → RM σ (H, s, tx) → mP s σ R → ∃ σ', fX12_plans_c59 k49 n (nI b) (nI a2) σ = k49 (nI (b + 10)) σ' ∧ RM σ' (H, s, tx) ∧ mP s σ' (grS (plF s) (plL s) (cD s) b m R) ∧ fM σ σ' := by
  have hcD := hI.caps.2.1
  have o := hI.oven.2.2.2.2
  have e4 : s 4 = nI (s 4).toInt.toNat := bt_nI o (by decide)
  have o2 := o.2
  intro m
  induction m with
  | zero =>
    intro a2 n σ R ha hn h hP
    obtain ⟨n, rfl⟩ : ∃ z, n = z + 1 := ⟨n - 1, by omega⟩
    have a : σ 1 4 = nI (s 4).toInt.toNat := (M_at2 h (by decide)).trans e4
    rw [fX12_plans_c59_s, show (4 : Int32) = nI 4 from rfl, xr_n (by decide) (by decide), a, if_pos (nI_le (by omega) (by omega)), xl_t, show (10 : Int32) = nI 10 from rfl, nI_add]
    exact ⟨σ, rfl, h, hP, fM.refl σ⟩
  | succ m ih =>
    intro a2 n σ R ha hn h hP
    obtain ⟨n, rfl⟩ : ∃ z, n = z + 1 := ⟨n - 1, by omega⟩
    have a : σ 1 4 = nI (s 4).toInt.toNat := (M_at2 h (by decide)).trans e4
    have hx : fX12_nextOf (nI b) σ = some (enc (nxS (plF s) (plL s) R b (cD s)), σ) := M_next h hI hP hb (cD s) 0 xFU (Nat.zero_add _) (by show cD s < 8192; omega)
    rw [fX12_plans_c59_s, show (4 : Int32) = nI 4 from rfl, xr_n (by decide) (by decide), a, if_neg (nI_ge (by omega) (by omega)), hx, xc2_t]
    cases e : nxS (plF s) (plL s) R b (cD s) with
    | none =>
      rw [if_pos (show enc none = -1 from rfl), xl_t, nI_1, grS_none e]
      obtain ⟨σ', e1, e2, e3, e4⟩ := ih (a2 + 1) n σ R (by omega) (by omega) h hP
      rw [grS_none e] at e3
      exact ⟨σ', e1, e2, e3, e4⟩
    | some j =>
      have eg : grS (plF s) (plL s) (cD s) b (m + 1) R = grS (plF s) (plL s) (cD s) b m (upd R j (nI b)) := by
        show (match nxS (plF s) (plL s) R b (cD s) with | none => R | some j => grS (plF s) (plL s) (cD s) b m (upd R j (nI b))) = _
        rw [e]
      obtain ⟨j1, -, -⟩ := nxS_some _ _ e
      rw [eg, if_neg (show ¬ enc (some j) = -1 from nIm1 (by omega))]
      show ∃ σ', xs σ 8 20 (nI j) (nI b) _ = _ ∧ _
      rw [xs_n (by omega) (by decide), xl_t, nI_1]
      have f1 : fM σ (xu σ 8 j (nI b)) := (fM.refl σ).xu 8 j _ (by decide)
      obtain ⟨σ', e1, e2, e3, e4⟩ := ih (a2 + 1) n (xu σ 8 j (nI b)) (upd R j (nI b)) (by omega) (by omega) (h.scr f1) ⟨fun k hk => by rw [xu_ne _ _ _ (by decide), xu_ne _ _ _ (by decide)]; exact hP.1 k hk, fun k hk => by
        rw [xu_at]
        by_cases e9 : k = j
        · rw [e9, upd_at, upd_at]
        · rw [upd_ne _ _ e9, upd_ne _ _ e9]; exact hP.2 k hk⟩
      exact ⟨σ', e1, e2, e3, f1.trans e4⟩
theorem M_rounds {N : Nat} {H : List sS} {s : sS} {tx : (Nat → Int32) × Nat} (hI : Inv N s) : ∀ (d j n : Nat) (σ : xSt), j + d = 40 → d < n → RM σ (H, s, tx) → mP s σ (rnS (plF s) (plL s) (cD s) (s 4).toInt.toNat (plB s) j) → ∃ σ', fX12_plans_c49 n (nI (plB s + 10 * j)) σ = some σ' ∧ RM σ' (H, s, tx) ∧ mP s σ' (plR s) ∧ fM σ σ' := by
  have hcD := hI.caps.2.1
  have o := hI.oven.1
  have o4 := hI.oven.2.2.2.2
  unfold bt at o o4
  have hB : plB s < 200000 ∧ (s 0).toInt.toNat ≤ plB s := by unfold plB; omega
  have enough : ¬ lft (plF s) (plL s) (rnS (plF s) (plL s) (cD s) (s 4).toInt.toNat (plB s) 40) (cD s) (plB s + 10 * 40) := rn_enough (T := (s 0).toInt.toNat) hcD (by omega) hB.1 hB.2 (fun k hk => by
    have pb := pl_b hI hk
    omega)
  intro d
  induction d with
  | zero =>
    intro j n σ hj hn h hP
    obtain ⟨n, rfl⟩ : ∃ z, n = z + 1 := ⟨n - 1, by omega⟩
    obtain rfl : j = 40 := by omega
    have hl : fX12_isLeft (nI (plB s + 10 * 40)) σ = some (0, σ) := (M_isLeft h hI hP (by omega) (cD s) 0 xFU (Nat.zero_add _) (by show cD s < 8192; omega) (fun k hk => absurd hk (Nat.not_lt_zero k))).2 enough
    rw [fX12_plans_c49_s, hl, xc2_t, if_pos rfl]
    exact ⟨σ, rfl, h, hP, fM.refl σ⟩
  | succ d ih =>
    intro j n σ hj hn h hP
    obtain ⟨n, rfl⟩ : ∃ z, n = z + 1 := ⟨n - 1, by omega⟩
    have hl := M_isLeft h hI hP (b := plB s + 10 * j) (by omega) (cD s) 0 xFU (Nat.zero_add _) (by show cD s < 8192; omega) (fun k hk => absurd hk (Nat.not_lt_zero k))
    rw [fX12_plans_c49_s]
    by_cases c : lft (plF s) (plL s) (rnS (plF s) (plL s) (cD s) (s 4).toInt.toNat (plB s) j) (cD s) (plB s + 10 * j)
    · rw [show fX12_isLeft (nI (plB s + 10 * j)) σ = some (1, σ) from hl.1 c, xc2_t, if_neg (show ¬ (1 : Int32) = 0 by decide)]
      obtain ⟨σ1, e1, h1, p1, f1⟩ := M_give (tx := tx) (H := H) hI (fX12_plans_c49 n) (b := plB s + 10 * j) (by omega) (s 4).toInt.toNat 0 xFU σ _ (Nat.zero_add _) (by show _ < 8192; omega) h hP
      obtain ⟨σ2, e2, h2, p2, f2⟩ := ih (j + 1) n σ1 (by omega) (by omega) h1 p1
      refine ⟨σ2, ?_, h2, p2, f1.trans f2⟩
      rw [show fX12_plans_c59 (fX12_plans_c49 n) xFU (nI (plB s + 10 * j)) 0 σ = _ from e1]
      exact e2
    · rw [show fX12_isLeft (nI (plB s + 10 * j)) σ = some (0, σ) from hl.2 c, xc2_t, if_pos rfl]
      refine ⟨σ, rfl, h, ?_, fM.refl σ⟩
      have e := rnS_idle c (40 - j)
      rw [show j + (40 - j) = 40 by omega] at e
      unfold plR
      rw [e]; exact hP
theorem beg_eq {N : Nat} {s : sS} (hI : Inv N s) : (s 0 + 10 - 1) / 10 * 10 = nI (plB s) := by
  have o := hI.oven.1
  have e : s 0 = nI (s 0).toInt.toNat := bt_nI o (by decide)
  have o1 := o.2
  have hT : (s 0).toInt.toNat ≤ 100000 := by omega
  unfold plB
  obtain ⟨T, hT2⟩ : ∃ T, T = (s 0).toInt.toNat := ⟨_, rfl⟩
  rw [← hT2] at e hT
  rw [← hT2]
  rw [e, show (10 : Int32) = nI 10 from rfl, nI_add, show nI (T + 10) - 1 = nI (T + 9) from nI_pred _]
  have d : nI (T + 9) / nI 10 = nI ((T + 9) / 10) := by
    rw [fa_eq, i32_div (by rw [nI_toInt (by omega)]; omega) (by decide), nI_toInt (by omega), nI_toInt (by omega), nI_toInt (by omega)]
    omega
  rw [d, nI_mul]
theorem M_plansLoop {N : Nat} {H : List sS} {s : sS} {tx : (Nat → Int32) × Nat} (hI : Inv N s) : ∀ (d i n : Nat) (σ : xSt), i + d = cD s → d < n → RM σ (H, s, tx) → (∀ k, k < i → (σ 6 k).toInt = mF s k ∧ (plF s k ≤ plL s k → (σ 7 k).toInt = encL (plL s k)) ∧ σ 8 k = -1) → ∃ σ', fX12_plans_c2 n (nI i) σ = some σ' ∧ RM σ' (H, s, tx) ∧ mP s σ' (plR s) ∧ fM σ σ' := by
  have hcD := hI.caps.2.1
  intro d
  induction d with
  | zero =>
    intro i n σ hi hn h hP
    obtain ⟨n, rfl⟩ : ∃ z, n = z + 1 := ⟨n - 1, by omega⟩
    obtain rfl : i = cD s := by omega
    have a6 : σ 1 6 = nI (cD s) := (M_at2 h (by decide)).trans hI.caps.2.2.2.2.2.2.1
    have a0 : σ 1 0 = s 0 := M_at2 h (by decide)
    rw [fX12_plans_c2_s, show (6 : Int32) = nI 6 from rfl, xr_n (by decide) (by decide), a6, if_pos (nI_le (Nat.le_refl _) (by omega)), show (0 : Int32) = nI 0 from rfl, xr_n (by decide) (by decide), a0, xl_t, beg_eq hI]
    exact M_rounds hI 40 0 xFU σ rfl (by decide) h ⟨fun k hk => ⟨(hP k hk).1, (hP k hk).2.1⟩, fun k hk => (hP k hk).2.2⟩
  | succ d ih =>
    intro i n σ hi hn h hP
    obtain ⟨n, rfl⟩ : ∃ z, n = z + 1 := ⟨n - 1, by omega⟩
    have a6 : σ 1 6 = nI (cD s) := (M_at2 h (by decide)).trans hI.caps.2.2.2.2.2.2.1
    obtain ⟨σ1, e1, g1, g2, g3, g4⟩ := M_bounds h hI (k := i) (by omega)
    have f1 : fM σ (xu σ1 8 i (-1)) := fM.xu (fun q hq => g1 q (by omega) (by omega)) 8 i _ (by decide)
    obtain ⟨σ2, e2, h2, p2, f2⟩ := ih (i + 1) n (xu σ1 8 i (-1)) (by omega) (by omega) (h.scr f1) (fun k hk => by
      rw [xu_ne _ _ _ (by decide), xu_ne _ _ _ (by decide), xu_at]
      by_cases e : k = i
      · rw [e, upd_at]; exact ⟨g3, g4, rfl⟩
      · rw [(g2 k e).1, (g2 k e).2, upd_ne _ _ e, g1 8 (by decide) (by decide)]
        exact hP k (by omega))
    refine ⟨σ2, ?_, h2, p2, f1.trans f2⟩
    rw [fX12_plans_c2_s, show (6 : Int32) = nI 6 from rfl, xr_n (by decide) (by decide), a6, if_neg (nI_ge (by omega) (by omega)), e1, xc_t, xs_n (by omega) (by decide), xl_t, nI_1]
    exact e2
theorem M_plans {N : Nat} {σ : xSt} {H : List sS} {s : sS} {tx : (Nat → Int32) × Nat} (h : RM σ (H, s, tx)) (hI : Inv N s) : ∃ σ', fX12_plans σ = some σ' ∧ RM σ' (H, s, tx) ∧ mP s σ' (plR s) ∧ fM σ σ' := by
  have hcD := hI.caps.2.1
  exact M_plansLoop hI (cD s) 0 xFU σ (Nat.zero_add _) (by show cD s < 8192; omega) h (fun k hk => absurd hk (Nat.not_lt_zero k))
theorem M_planned {N : Nat} {σ : xSt} {H : List sS} {s : sS} {tx : (Nat → Int32) × Nat} (h : RM σ (H, s, tx)) (hI : Inv N s) (p0 : Int32) : MR (fX12_planned p0 σ) 1 9 9 9 (sp_planned p0 (H, s, tx)) := by
  have hc := hI.caps
  have hcD := hc.2.1
  unfold fX12_planned sp_planned
  rw [M_isDough h, xc2_t]
  show MR (xc2 (fX12_can (if 0 ≤ p0 ∧ p0 ≤ s 6 - 1 then 1 else 0) 1 σ) _) _ _ _ _ (if 0 ≤ p0 ∧ p0 ≤ s 6 - 1 then _ else _)
  by_cases g1 : 0 ≤ p0 ∧ p0 ≤ s 6 - 1
  · rw [if_pos g1, if_pos g1, M_can1, xc2_t, if_neg (by decide)]
    obtain ⟨k, hk, rfl⟩ := x_cnt hc.2.2.2.2.2.2.1 (by omega) g1
    have hk : k < cD s := hk
    obtain ⟨σ1, e1, h1, p1, f1⟩ := M_plans (h.raised 0) hI
    rw [e1, xc_t, xr_n (by omega) (by decide), p1.2 k hk, nI_clamp (by omega)]
    exact ⟨_, σ1, rfl, h1, by rw [f1 0 (by decide)]; rfl, fun v hv => (Sum.inl.inj hv).symm⟩
  · rw [if_neg g1, if_neg g1, M_can0, xc2_t, if_pos rfl]
    exact ⟨_, _, rfl, h.raised 1, rfl, fun v hv => nomatch hv⟩
theorem M_inPlanLoop {N : Nat} {σ : xSt} {H : List sS} {s : sS} {tx : (Nat → Int32) × Nat} (h : RM σ (H, s, tx)) (hI : Inv N s) {R : Nat → Int32} (hP : mP s σ R) : ∀ (d i n : Nat), i + d = cD s → d < n → fX12_inPlan_c13 n (s32 (fun k => if plF s k ≤ plL s k then 1 else 0) i) (nI i) σ = some (plN s, σ) := by
  have hcD := hI.caps.2.1
  have a6 : σ 1 6 = nI (cD s) := (M_at2 h (by decide)).trans hI.caps.2.2.2.2.2.2.1
  intro d
  induction d with
  | zero =>
    intro i n hi hn
    obtain ⟨n, rfl⟩ : ∃ z, n = z + 1 := ⟨n - 1, by omega⟩
    obtain rfl : i = cD s := by omega
    rw [fX12_inPlan_c13_s, show (6 : Int32) = nI 6 from rfl, xr_n (by decide) (by decide), a6, if_pos (nI_le (Nat.le_refl _) (by omega))]
    rfl
  | succ d ih =>
    intro i n hi hn
    obtain ⟨n, rfl⟩ : ∃ z, n = z + 1 := ⟨n - 1, by omega⟩
    have ih := ih (i + 1) n (by omega) (by omega)
    have hi' : i < cD s := by omega
    have es : s32 (fun k => if plF s k ≤ plL s k then (1 : Int32) else 0) (i + 1) = s32 (fun k => if plF s k ≤ plL s k then (1 : Int32) else 0) i + (if plF s i ≤ plL s i then 1 else 0) := rfl
    rw [es] at ih
    rw [fX12_inPlan_c13_s, show (6 : Int32) = nI 6 from rfl, xr_n (by decide) (by decide), a6, if_neg (nI_ge (by omega) (by omega)), xr_n (by omega) (by decide)]
    by_cases g : plF s i ≤ plL s i
    · rw [if_pos g] at ih
      rw [if_neg (show ¬ σ 6 i = -1 from fun h9 => (m6_iff hI hP hi').mp h9 g), xl_t, xl_t, nI_1]; exact ih
    · rw [if_neg g] at ih
      rw [if_pos ((m6_iff hI hP hi').mpr g), xl_t, xl_t, nI_1]; exact ih
theorem M_lateLoop {N : Nat} {σ : xSt} {H : List sS} {s : sS} {tx : (Nat → Int32) × Nat} (h : RM σ (H, s, tx)) (hI : Inv N s) (hP : mP s σ (plR s)) : ∀ (d i n : Nat), i + d = cD s → d < n → fX12_late_c13 n (s32 (fun k => if plF s k ≤ plL s k ∧ plR s k = -1 then 1 else 0) i) (nI i) σ = some (plW s, σ) := by
  have hcD := hI.caps.2.1
  have a6 : σ 1 6 = nI (cD s) := (M_at2 h (by decide)).trans hI.caps.2.2.2.2.2.2.1
  intro d
  induction d with
  | zero =>
    intro i n hi hn
    obtain ⟨n, rfl⟩ : ∃ z, n = z + 1 := ⟨n - 1, by omega⟩
    obtain rfl : i = cD s := by omega
    rw [fX12_late_c13_s, show (6 : Int32) = nI 6 from rfl, xr_n (by decide) (by decide), a6, if_pos (nI_le (Nat.le_refl _) (by omega))]
    rfl
  | succ d ih =>
    intro i n hi hn
    obtain ⟨n, rfl⟩ : ∃ z, n = z + 1 := ⟨n - 1, by omega⟩
    have ih := ih (i + 1) n (by omega) (by omega)
    have hi' : i < cD s := by omega
    have p3 := hP.2 i hi'
    have es : s32 (fun k => if plF s k ≤ plL s k ∧ plR s k = -1 then (1 : Int32) else 0) (i + 1) = s32 (fun k => if plF s k ≤ plL s k ∧ plR s k = -1 then (1 : Int32) else 0) i + (if plF s i ≤ plL s i ∧ plR s i = -1 then 1 else 0) := rfl
    rw [es] at ih
    rw [fX12_late_c13_s, show (6 : Int32) = nI 6 from rfl, xr_n (by decide) (by decide), a6, if_neg (nI_ge (by omega) (by omega)), xr_n (by omega) (by decide)]
    by_cases g : plF s i ≤ plL s i
    · rw [if_neg (show ¬ σ 6 i = -1 from fun h9 => (m6_iff hI hP hi').mp h9 g), xr_n (by omega) (by decide), p3]
      by_cases g2 : plR s i = -1
      · rw [if_pos (show plF s i ≤ plL s i ∧ plR s i = -1 from ⟨g, g2⟩)] at ih
        rw [if_pos g2, xl_t, xl_t, nI_1]; exact ih
      · rw [if_neg (show ¬ (plF s i ≤ plL s i ∧ plR s i = -1) from fun h9 => g2 h9.2)] at ih
        rw [if_neg g2]
        unfold fX12_late_c49
        rw [xl_t, xl_t, nI_1]; exact ih
    · rw [if_neg (show ¬ (plF s i ≤ plL s i ∧ plR s i = -1) from fun h9 => g h9.1)] at ih
      rw [if_pos ((m6_iff hI hP hi').mpr g)]
      unfold fX12_late_c49
      rw [xl_t, xl_t, nI_1]; exact ih
theorem M_inPlan {N : Nat} {σ : xSt} {H : List sS} {s : sS} {tx : (Nat → Int32) × Nat} (h : RM σ (H, s, tx)) (hI : Inv N s) : MRi (fX12_inPlan σ) (plN s, (H, s, tx)) := by
  obtain ⟨σ1, e1, h1, p1, f1⟩ := M_plans (h.raised 0) hI
  have hcD := hI.caps.2.1
  unfold fX12_inPlan
  rw [xp_t, e1, xc_t, show fX12_inPlan_c13 xFU 0 0 σ1 = some (plN s, σ1) from M_inPlanLoop h1 hI p1 (cD s) 0 xFU (Nat.zero_add _) (by show cD s < 8192; omega)]
  exact ⟨σ1, rfl, h1⟩
theorem M_late {N : Nat} {σ : xSt} {H : List sS} {s : sS} {tx : (Nat → Int32) × Nat} (h : RM σ (H, s, tx)) (hI : Inv N s) : MRi (fX12_late σ) (plW s, (H, s, tx)) := by
  obtain ⟨σ1, e1, h1, p1, f1⟩ := M_plans (h.raised 0) hI
  have hcD := hI.caps.2.1
  unfold fX12_late
  rw [xp_t, e1, xc_t, show fX12_late_c13 xFU 0 0 σ1 = some (plW s, σ1) from M_lateLoop h1 hI p1 (cD s) 0 xFU (Nat.zero_add _) (by show cD s < 8192; omega)]
  exact ⟨σ1, rfl, h1⟩
