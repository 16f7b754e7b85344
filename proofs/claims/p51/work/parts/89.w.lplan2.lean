/-! isPlanned: the plan of the class against the law's own bounds -/
theorem plR_val {N : Nat} {s : sS} (hI : Inv N s) {k : Nat} : plR s k = -1 ∨ ∃ q : Nat, q < 400000 ∧ q % 10 = 0 ∧ k < cD s ∧ plR s k = nI q ∧ plF s k ≤ (q : Int) ∧ (q : Int) ≤ plL s k := by
  have o := hI.oven.1
  unfold bt at o
  rcases rnS_val (F := plF s) (L := plL s) (D := cD s) (m := (s 4).toInt.toNat) (b0 := plB s) 40 k with h8 | ⟨t, h1, h2, h3, h4, h5⟩
  · exact Or.inl h8
  · have hb : plB s ≤ 100009 ∧ plB s % 10 = 0 := by
      unfold plB
      omega
    exact Or.inr ⟨plB s + 10 * t, by omega, by omega, h2, h3, h4, h5⟩
def eqR (s : sS) (k j : Nat) : Bool := decide (¬ plR s j = -1 ∧ plR s j = plR s k)
theorem eqR_most {N : Nat} {s : sS} (hI : Inv N s) (k : Nat) : cnB (eqR s k) (cD s) ≤ (s 4).toInt.toNat := by
  have o := hI.oven.1
  unfold bt at o
  have hb : plB s < 1000000 := by
    unfold plB
    omega
  rcases rnS_val (F := plF s) (L := plL s) (D := cD s) (m := (s 4).toInt.toNat) (b0 := plB s) 40 k with h8 | ⟨t, h1, h2, h3, h4, h5⟩
  · have h8 : plR s k = -1 := h8
    have z : cnB (eqR s k) (cD s) = 0 := cnB_zero (cD s) (fun j _ => decide_eq_false (fun h9 => h9.1 (h9.2.trans h8)))
    rw [z]
    exact Nat.zero_le _
  · have h3 : plR s k = nI (plB s + 10 * t) := h3
    refine Nat.le_trans (cnB_le (cD s) fun j _ hj => ?_) (rnS_most (F := plF s) (L := plL s) (D := cD s) (m := (s 4).toInt.toNat) hb t (by omega) 40 (by omega))
    have hj := of_decide_eq_true hj
    exact decide_eq_true (hj.2.trans h3)
/-- what the law keeps of the rounds -/
def rdP (s : sS) (rd : Nat → Int32) : Prop := ∀ k, k < cD s → rd k = plR s k
theorem P_c191 {N : Nat} {s : sS} {bs : Nat → Option (Int32 × Int32)} {rd : Nat → Int32} {σ : xSt} (hI : Inv N s) (hb : bsP s bs) (hrd : rdP s rd) (l3 : σ 52 3 = nI (cD s)) (l4 : σ 52 4 = s 4) (k176 : Int32 → Int32 → (Nat → Option (Int32 × Int32)) → (Nat → Int32) → xSt → Option (Int32 × xSt)) (a2 : Int32) {k : Nat} (hk : k < cD s) : ∀ (d i n : Nat), i + d = cD s → d < n → fL_isPlanned_c191 (cD s) k176 n a2 (nI k) (nI (cnB (eqR s k) i)) (nI i) bs rd σ = k176 a2 (nI (k + 1)) bs rd σ := by
  have h20 : cD s ≤ 20 := hI.caps.2.1
  intro d
  induction d with
  | zero =>
    intro i n hi hn
    match n, hn with
    | n + 1, _ =>
      obtain rfl : i = cD s := by omega
      have o4 := hI.oven.2.2.2.2
      obtain ⟨m, z4, m4⟩ : ∃ m : Nat, s 4 = nI m ∧ m ≤ 4 := ⟨(s 4).toNatClampNeg, bt_nI o4 (by decide), by have := bt_cl o4 (by decide); omega⟩
      have z4' : (s 4).toInt.toNat = m := by
        rw [z4, nI_toInt (by omega)]
        rfl
      have c := eqR_most hI k
      rw [z4'] at c
      rw [fL_isPlanned_c191_s, l3, if_pos (nI_le (Nat.le_refl _) (by omega)), l4, z4, if_pos (nI_le c (by omega)), xl_t, ← nI_succ]
  | succ d ih =>
    intro i n hi hn
    match n, hn with
    | n + 1, hn =>
      have ih := ih (i + 1) n (by omega) (by omega)
      have iD : i < cD s := by omega
      rw [fL_isPlanned_c191_s, l3, if_neg (nI_ge (by omega) (by omega))]
      by_cases c0 : plR s i = -1
      · have e : cnB (eqR s k) (i + 1) = cnB (eqR s k) i := cnB_f (decide_eq_false (fun h9 => h9.1 c0))
        rw [e] at ih
        by_cases pi : plF s i ≤ plL s i
        · obtain ⟨fi, li, ei, _⟩ := pbd_some hI iD pi
          rw [xrow_some iD (by omega) ((hb i iD).trans ei), xrs_n iD (by omega)]
          rw [hrd i iD, if_pos c0, xl_t, ← nI_succ]
          exact ih
        · rw [xrow_none iD (by omega) ((hb i iD).trans (pbd_none pi)), xl_t, ← nI_succ]
          exact ih
      · rcases plR_val hI (k := i) with h9 | ⟨q, q1, q2, q3, q4, q5, q6⟩
        · exact absurd h9 c0
        · obtain ⟨fi, li, ei, _⟩ := pbd_some hI iD (Int.le_trans q5 q6)
          rw [xrow_some iD (by omega) ((hb i iD).trans ei), xrs_n iD (by omega)]
          rw [hrd i iD, if_neg c0, xrs_n iD (by omega)]
          rw [xrs_n hk (by omega)]
          rw [hrd i iD, hrd k hk]
          by_cases c1 : plR s i = plR s k
          · have e : cnB (eqR s k) (i + 1) = cnB (eqR s k) i + 1 := cnB_t (decide_eq_true ⟨c0, c1⟩)
            rw [e] at ih
            rw [if_pos c1, xl_t, xl_t, ← nI_succ, ← nI_succ]
            exact ih
          · have e : cnB (eqR s k) (i + 1) = cnB (eqR s k) i := cnB_f (decide_eq_false (fun h9 => c1 h9.2))
            rw [e] at ih
            rw [if_neg c1, xl_t, ← nI_succ]
            exact ih
theorem P_c176 {N : Nat} {s : sS} {bs : Nat → Option (Int32 × Int32)} {rd : Nat → Int32} {σ : xSt} (hI : Inv N s) (hb : bsP s bs) (hrd : rdP s rd) (l3 : σ 52 3 = nI (cD s)) (l4 : σ 52 4 = s 4) : ∀ (d k n : Nat), k + d = cD s → d < n → fL_isPlanned_c176 (cD s) n (plW s) (nI k) bs rd σ = some (1, σ) := by
  have h20 : cD s ≤ 20 := hI.caps.2.1
  intro d
  induction d with
  | zero =>
    intro k n hi hn
    match n, hn with
    | n + 1, _ =>
      rw [fL_isPlanned_c176_s, l3, if_pos (nI_le (by omega) (by omega))]
      by_cases c : plW s = 0
      · rw [if_pos c]
      · rw [if_neg c]
        by_cases c2 : ∃ x, x < cD s ∧ plF s x ≤ plL s x ∧ plR s x = -1
        · obtain ⟨x, x1, x2, x3⟩ := c2
          rw [P_isCrowded hI hb l3 l4 x1 x2 x3]
          rfl
        · refine absurd (s32_nil (cD s) fun k hk => ?_) c
          exact if_neg (fun h9 => c2 ⟨k, hk, h9.1, h9.2⟩)
  | succ d ih =>
    intro k n hi hn
    match n, hn with
    | n + 1, hn =>
      rw [fL_isPlanned_c176_s, l3, if_neg (nI_ge (by omega) (by omega))]
      have := P_c191 hI hb hrd l3 l4 (fL_isPlanned_c176 (cD s) n) (plW s) (k := k) (by omega) (cD s) 0 xFU (by omega) (by have h9 : xFU = 8192 := rfl; omega)
      exact this.trans (ih (k + 1) n (by omega) (by omega))
theorem P_planned {N : Nat} {σ : xSt} {a : xA} (h : RX σ a) (hI : Inv N a.2.1) {k : Nat} (hk : k < cD a.2.1) : ∃ σ', RX σ' a ∧ kL σ σ' ∧ ∀ {β : Type} (K : Int32 → xSt → Option β), xco (fX11_planned (nI k) σ) σ K = K (plR a.2.1 k) σ' := by
  have h20 : cD a.2.1 ≤ 20 := hI.caps.2.1
  refine P_ask (X_planned (H := a.1) (s := a.2.1) (tx := a.2.2) h hI _) ?_
  unfold sp_planned
  have h1 : 0 ≤ nI k ∧ nI k ≤ (a.1, a.2.1, a.2.2).2.1 6 - 1 := d_in hI.caps hk
  rw [if_pos h1, nI_clamp (show k < 2 ^ 31 by omega)]
def pIn (s : sS) (k : Nat) : Int32 := if plF s k ≤ plL s k then 1 else 0
def pLate (s : sS) (k : Nat) : Int32 := if plF s k ≤ plL s k ∧ plR s k = -1 then 1 else 0
theorem P_c74 {N : Nat} {s : sS} {bs : Nat → Option (Int32 × Int32)} {rd : Nat → Int32} {σ : xSt} (hI : Inv N s) {k : Nat} (hk : k < cD s) (hb : bs k = pbd s k) (hrd : rd k = plR s k) (k23 : Int32 → Int32 → Int32 → (Nat → Option (Int32 × Int32)) → (Nat → Int32) → xSt → Option (Int32 × xSt)) (a1 a2 : Int32) : fL_isPlanned_c74 (cD s) k23 a1 a2 (nI k) bs rd σ = k23 (a1 + pIn s k) (a2 + pLate s k) (nI (k + 1)) bs rd σ := by
  have h20 : cD s ≤ 20 := hI.caps.2.1
  unfold fL_isPlanned_c74
  by_cases pi : plF s k ≤ plL s k
  · obtain ⟨f, l, e, e1, e2, e3, e4⟩ := pbd_some hI hk pi
    have i1 : pIn s k = 1 := if_pos pi
    rw [xrow_some hk (by omega) (hb.trans e), xl_t, xrs_n hk (by omega)]
    rw [hrd, i1]
    rcases plR_val hI (k := k) with h9 | ⟨q, q1, q2, q3, q4, q5, q6⟩
    · have i2 : pLate s k = 1 := if_pos ⟨pi, h9⟩
      rw [if_pos h9, xl_t, xl_t, i2, ← nI_succ]
    · have c0 : ¬ plR s k = -1 := by
        rw [q4]
        exact nIm1 (by omega)
      have i2 : pLate s k = 0 := if_neg (fun h9 => c0 h9.2)
      have e10 : (10 : Int32) = nI 10 := rfl
      rw [if_neg c0, xrs_n hk (by omega)]
      rw [hrd, q4, e10, nI_rem (by omega) (by omega) (by decide), q2, if_pos (show nI 0 = 0 from rfl), xrs_n hk (by omega)]
      rw [xrow_some hk (by omega) (hb.trans e), hrd, q4, if_neg (nI_nlt (by omega) (by omega)), xrs_n hk (by omega)]
      rw [xrow_some hk (by omega) (hb.trans e), hrd, q4, if_pos (nI_le (by omega) (by omega)), xl_t, i2, ← nI_succ, Int32.add_zero]
  · have i1 : pIn s k = 0 := if_neg pi
    have i2 : pLate s k = 0 := if_neg (fun h9 => pi h9.1)
    rw [xrow_none hk (by omega) (hb.trans (pbd_none pi)), xl_t, i1, i2, ← nI_succ, Int32.add_zero, Int32.add_zero]
/-- the law's own cells, as they stand in isDay -/
def LW (R : Nat) (σ : xSt) (s : sS) : Prop := (σ 52 2 = nI R ∧ σ 52 3 = nI (cD s) ∧ σ 52 4 = s 4 ∧ σ 52 5 = s 1) ∧ (1 ≤ R ∧ R ≤ 4 ∧ R = cR s) ∧ ∀ i, i < R → Rc1 σ s i
theorem LW.ofX {R : Nat} {σ τ : xSt} {s : sS} (h : LW R σ s) (k : kX σ τ) : LW R τ s := by
  obtain ⟨⟨h1, h2, h3, h4⟩, h5, h6⟩ := h
  have e : τ 52 = σ 52 := k 52 (by omega) (by omega)
  rw [← e] at h1 h2 h3 h4
  exact ⟨⟨h1, h2, h3, h4⟩, h5, fun i hi => (h6 i hi).cg (fun q q1 q2 => by rw [k q (by omega) (by omega)]) (fun _ _ => rfl)⟩
theorem LW.ofL {R : Nat} {σ τ : xSt} {s : sS} (h : LW R σ s) (k : kL σ τ) : LW R τ s := h.ofX k.x
def bsI (s : sS) (i : Nat) : Nat → Option (Int32 × Int32) := fun j => if j < i then pbd s j else none
def rdI (s : sS) (i : Nat) : Nat → Int32 := fun j => if j < i then plR s j else 0
theorem bsI_s (s : sS) (i : Nat) : xbu (bsI s i) i (pbd s i) = bsI s (i + 1) := by
  funext j
  unfold xbu bsI
  by_cases c : j = i
  · rw [if_pos c, if_pos (by omega), c]
  · rw [if_neg c]
    by_cases c2 : j < i
    · rw [if_pos c2, if_pos (by omega)]
    · rw [if_neg c2, if_neg (by omega)]
theorem rdI_s (s : sS) (i : Nat) : upd (rdI s i) i (plR s i) = rdI s (i + 1) := by
  funext j
  unfold rdI
  by_cases c : j = i
  · rw [c, upd_at, if_pos (by omega)]
  · rw [upd_ne _ _ c]
    by_cases c2 : j < i
    · rw [if_pos c2, if_pos (by omega)]
    · rw [if_neg c2, if_neg (by omega)]
theorem bsI_P {s : sS} : bsP s (bsI s (cD s)) := fun _ hk => if_pos hk
theorem rdI_P {s : sS} : rdP s (rdI s (cD s)) := fun _ hk => if_pos hk
theorem P_c23 {N R : Nat} {H : List sS} {s : sS} {tx : (Nat → Int32) × Nat} (hG : GH N (H, s, tx)) : ∀ (d i n : Nat) (σ : xSt), i + d = cD s → d < n → RX σ (H, s, tx) → LW R σ s → ∃ σ', RX σ' (H, s, tx) ∧ kL σ σ' ∧ fL_isPlanned_c23 (cD s) n (s32 (pIn s) i) (s32 (pLate s) i) (nI i) (bsI s i) (rdI s i) σ = some (1, σ') := by
  have hI : Inv N s := hG.inv
  have h20 : cD s ≤ 20 := hI.caps.2.1
  intro d
  induction d with
  | zero =>
    intro i n σ hi hn h w
    match n, hn with
    | n + 1, _ =>
      obtain rfl : i = cD s := by omega
      obtain ⟨σ1, h1, k1, e1⟩ := xcm_XR (σ := σ) (X_inPlan h hI)
      have h1 : RX σ1 (H, s, tx) := h1
      have e1 : ∀ {β : Type} (K : Int32 → xSt → Option β), xcm (fX11_inPlan σ) σ K = K (s32 (pIn s) (cD s)) σ1 := e1
      obtain ⟨σ2, h2, k2, e2⟩ := xcm_XR (σ := σ1) (X_late h1 hI)
      have h2 : RX σ2 (H, s, tx) := h2
      have e2 : ∀ {β : Type} (K : Int32 → xSt → Option β), xcm (fX11_late σ1) σ1 K = K (s32 (pLate s) (cD s)) σ2 := e2
      have w2 := (w.ofL k1).ofL k2
      refine ⟨σ2, h2, k1.tr k2, ?_⟩
      rw [fL_isPlanned_c23_s, w.1.2.1, if_pos (nI_le (Nat.le_refl _) (by omega)), e1, if_pos rfl, e2, if_pos rfl]
      exact P_c176 hI bsI_P rdI_P w2.1.2.1 w2.1.2.2.1 (cD s) 0 xFU (by omega) (by have h9 : xFU = 8192 := rfl; omega)
  | succ d ih =>
    intro i n σ hi hn h w
    match n, hn with
    | n + 1, hn =>
      have iD : i < cD s := by omega
      have dr : drc s i < R := by
        rw [w.2.1.2.2]
        exact drc_lt hI.caps iD
      obtain ⟨σ1, h1, k1, e1⟩ := P_bounds h hG iD w.1.2.2.2 (by have := w.2.1; omega) (w.2.2 _ dr)
      obtain ⟨σ2, h2, k2, e2⟩ := P_planned h1 hI (k := i) iD
      have e2 : ∀ {β : Type} (K : Int32 → xSt → Option β), xco (fX11_planned (nI i) σ1) σ1 K = K (plR s i) σ2 := e2
      obtain ⟨σ3, h3, k3, e3⟩ := ih (i + 1) n σ2 (by omega) (by omega) h2 ((w.ofL k1).ofL k2)
      refine ⟨σ3, h3, (k1.tr k2).tr k3, ?_⟩
      have b1 : bsI s (i + 1) i = pbd s i := if_pos (Nat.lt_succ_self i)
      have r1 : rdI s (i + 1) i = plR s i := if_pos (Nat.lt_succ_self i)
      have key := P_c74 (σ := σ2) hI iD b1 r1 (fL_isPlanned_c23 (cD s) n) (s32 (pIn s) i) (s32 (pLate s) i)
      have key : fL_isPlanned_c74 (cD s) (fL_isPlanned_c23 (cD s) n) (s32 (pIn s) i) (s32 (pLate s) i) (nI i) (bsI s (i + 1)) (rdI s (i + 1)) σ2 = some (1, σ3) := key.trans e3
      rw [fL_isPlanned_c23_s, w.1.2.1, if_neg (nI_ge (by omega) (by omega)), xc2_s e1, xbs_t (xin_n iD (by omega)), xl_t, nI_clamp (show i < 2 ^ 31 by omega), bsI_s, e2, xbs_t (xin_n iD (by omega)), xl_t, rdI_s]
      by_cases pi : plF s i ≤ plL s i
      · obtain ⟨f, l, e, _⟩ := pbd_some hI iD pi
        rw [xrow_some iD (by omega) (b1.trans e)]
        exact key
      · have c0 : plR s i = -1 := by
          rcases plR_val hI (k := i) with h9 | ⟨q, q1, q2, q3, q4, q5, q6⟩
          · exact h9
          · exact absurd (Int.le_trans q5 q6) pi
        rw [xrow_none iD (by omega) (b1.trans (pbd_none pi)), xrs_n iD (by omega)]
        rw [r1, if_pos c0]
        exact key
theorem P_isPlanned {N R : Nat} {σ : xSt} {H : List sS} {s : sS} {tx : (Nat → Int32) × Nat} (h : RX σ (H, s, tx)) (hG : GH N (H, s, tx)) (w : LW R σ s) : ∃ σ', RX σ' (H, s, tx) ∧ kL σ σ' ∧ fL_isPlanned σ = some (1, σ') := by
  have hI : Inv N s := hG.inv
  have h20 : cD s ≤ 20 := hI.caps.2.1
  obtain ⟨σ1, h1, k1, e1⟩ := P_c23 hG (cD s) 0 xF22 σ (by omega) (by have h9 : xF22 = 22 := rfl; omega) h w
  refine ⟨σ1, h1, k1, ?_⟩
  have cl : (nI (cD s)).toNatClampNeg = cD s := nI_clamp (show cD s < 2 ^ 31 by omega)
  have b0 : bsI s 0 = fun _ => none := by
    funext j
    exact if_neg (Nat.not_lt_zero j)
  have r0 : rdI s 0 = fun _ => 0 := by
    funext j
    exact if_neg (Nat.not_lt_zero j)
  rw [b0, r0] at e1
  unfold fL_isPlanned
  rw [w.1.2.1, xsz_t ⟨nI_pos (by omega), by rw [cl]; exact h20⟩, cl]
  exact e1
