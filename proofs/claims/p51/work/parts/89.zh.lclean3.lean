/-! isClean: the row that the class tells -/
def mkS (p : List Nat) : Nat → Nat
  | 0 => 0
  | k + 1 => oV (mkS p k) (gl p k)
def okQ (V : Nat) (p : List Nat) : Bool := (p.length == (remS V).length) && ((rg 0 p.length).all fun k => decide (gl p k < 4) && bV V (gl p k) && !bV (mkS p k) (gl p k) && (mkS p k != V)) && (mkS p p.length == V)
set_option maxRecDepth 100000 in
theorem row_fin : ∀ V, V < 16 → (prm (remS V).length (remS V)).all (okQ V) = true ∧ (remS V).length ≤ 4 := by decide +kernel
theorem okQ_of {V : Nat} {p : List Nat} (h : okQ V p = true) : p.length = (remS V).length ∧ mkS p p.length = V ∧ ∀ k, k < p.length → gl p k < 4 ∧ bV V (gl p k) = true ∧ bV (mkS p k) (gl p k) = false ∧ mkS p k ≠ V := by
  unfold okQ at h
  rw [Bool.and_eq_true, Bool.and_eq_true] at h
  obtain ⟨⟨h1, h2⟩, h3⟩ := h
  have h2 := List.all_eq_true.mp h2
  refine ⟨eq_of_beq h1, eq_of_beq h3, fun k hk => ?_⟩
  have g := h2 k ((rg_mem _ _ _).mpr (by omega))
  rw [Bool.and_eq_true, Bool.and_eq_true, Bool.and_eq_true] at g
  obtain ⟨⟨⟨g1, g2⟩, g3⟩, g4⟩ := g
  refine ⟨of_decide_eq_true g1, g2, ?_, bne_iff_ne.mp g4⟩
  cases c : bV (mkS p k) (gl p k) with
  | false => rfl
  | true =>
    rw [c] at g3
    exact nomatch g3
theorem mkS_lt {p : List Nat} (h : ∀ k, k < p.length → gl p k < 4) : ∀ k, k ≤ p.length → mkS p k < 128
  | 0, _ => by show 0 < 128; omega
  | k + 1, hk => (bit7 _ (mkS_lt h k (by omega)) _ (by have := h k (by omega); omega)).2.2
def pf (p : List Nat) (k : Nat) : Nat := if k = 0 then 7 else gl p (k - 1)
theorem P_cleaning {N : Nat} {σ : xSt} {H : List sS} {s : sS} {tx : (Nat → Int32) × Nat} (h : RX σ (H, s, tx)) (hI : Inv N s) {V : Nat} (hV : V < 2 ^ cR s) {e : Nat} {p : List Nat} (hb : bestR s V = some ((e : Int), p)) : ∃ σ', RX σ' (H, s, tx) ∧ kL σ σ' ∧ ∀ {β : Type} (K : Int32 → xSt → Option β), xco (fX11_cleaning (nI V) σ) σ K = K (nI e) σ' := xco_XR (X_cleaningV h hI hV hb) rfl
theorem P_rowAt {N : Nat} {σ : xSt} {H : List sS} {s : sS} {tx : (Nat → Int32) × Nat} (h : RX σ (H, s, tx)) (hI : Inv N s) {V : Nat} (hV : V < 2 ^ cR s) {e : Int} {p : List Nat} (hb : bestR s V = some (e, p)) {k : Nat} (hk : k < (remS V).length) : ∃ σ', RX σ' (H, s, tx) ∧ kL σ σ' ∧ ∀ {β : Type} (K : Int32 → xSt → Option β), xco (fX11_rowAt (nI V) (nI k) σ) σ K = K (nI (gl p k)) σ' := xco_XR (X_rowAtV h hI hV hb hk) rfl
theorem P_best {R : Nat} {σ : xSt} {s : sS} (w : LW R σ s) {V : Nat} (hV : V < 64) (hR : ∀ a, a < 6 → bV V a = true → a < R) (hl : (remS V).length < 6) : ∃ (v : Nat) (p : List Nat), v ≤ 14 * (remS V).length ∧ bestR s V = some ((v : Int), p) ∧ p ∈ prm (remS V).length (remS V) ∧ runP s 7 0 p = some (v : Int) ∧ fL_cheapest 6 (nI V) (-1) σ = some (nI v, σ) := by
  obtain ⟨v, v1, v2, v3⟩ := P_cheapest w (remS V).length 6 7 V hV rfl hl hR (Or.inl rfl)
  obtain ⟨e, p, he⟩ := bestR_some s hV
  obtain ⟨e1, e2, e3⟩ := bestR_lsP hV he v2
  rw [e1] at he e3
  exact ⟨v, p, v1, he, e2, e3, v3⟩
theorem P_c38 {N R : Nat} {H : List sS} {s : sS} {tx : (Nat → Int32) × Nat} (hI : Inv N s) {V v : Nat} {p : List Nat} (hV : V < 2 ^ cR s) (hV16 : V < 16) (hv : v < 1000) (hb : bestR s V = some ((v : Int), p)) (hp : okQ V p = true) : ∀ (t k n m : Nat) (l : List Nat) (σ : xSt), k + t = p.length → t < n → l.length = t → (∀ i, i < t → gl l i = gl p (k + i)) → runP s (pf p k) (m : Int) l = some (v : Int) → m + 14 * t ≤ 1000 → RX σ (H, s, tx) → LW R σ s → ∃ σ', RX σ' (H, s, tx) ∧ kL σ σ' ∧ fL_isClean_c38 n (nI V) (nI v) (nI m) (nI (mkS p k)) (lastI (pf p k)) (nI k) σ = some (1, σ') := by
  obtain ⟨p1, p2, p3⟩ := okQ_of hp
  have hl4 := (row_fin V hV16).2
  have hs := mkS_lt (p := p) (fun k hk => (p3 k hk).1)
  have hcR := hI.caps.1
  have hVR := (set_in hI hV).2.2
  intro t
  induction t with
  | zero =>
    intro k n m l σ hk hn hl hg hr hm h w
    match n, hn with
    | n + 1, _ =>
      obtain rfl : k = p.length := by omega
      have el : l = [] := List.eq_nil_of_length_eq_zero hl
      rw [el] at hr
      have hr : some (m : Int) = some (v : Int) := hr
      have em : m = v := by
        have := Option.some.inj hr
        omega
      have hRR : ∀ a, a < 6 → bV V a = true → a < R := fun a h1 h2 => by
        rw [w.2.1.2.2]
        exact hVR a h1 h2
      obtain ⟨v1, q1, _, b1, _, _, c1⟩ := P_best w (V := V) (by omega) hRR (by omega)
      rw [hb] at b1
      have ev : v = v1 := by
        have := Option.some.inj b1
        have := congrArg Prod.fst this
        have : (v : Int) = (v1 : Int) := this
        omega
      rw [← ev] at c1
      obtain ⟨v0, q0, z0, b0, _, _, _⟩ := P_best w (V := 0) (by omega) (fun a h1 h2 => absurd h2 (by
        have : ∀ a, a < 6 → ¬ bV 0 a = true := by decide
        exact this a h1)) (by decide)
      have e0 : v0 = 0 := by
        have : (remS 0).length = 0 := by decide
        omega
      rw [e0] at b0
      obtain ⟨σ1, h1, k1, x1⟩ := P_cleaning h hI (V := 0) (Nat.two_pow_pos _) b0
      have x1 : ∀ {β : Type} (K : Int32 → xSt → Option β), xco (fX11_cleaning 0 σ) σ K = K 0 σ1 := x1
      refine ⟨σ1, h1, k1, ?_⟩
      rw [fL_isClean_c38_s, p2, if_pos rfl, em, if_pos rfl, xc2_s c1, if_pos rfl, x1, if_pos rfl]
  | succ t ih =>
    intro k n m l σ hk hn hl hg hr hm h w
    match n, hn with
    | n + 1, hn =>
      have kl : k < p.length := by omega
      obtain ⟨q1, q2, q3, q4⟩ := p3 k kl
      have hS := hs k (by omega)
      obtain ⟨a, l', el⟩ : ∃ a l', l = a :: l' := by
        cases l with
        | nil => exact nomatch hl
        | cons a l' => exact ⟨a, l', rfl⟩
      have ea : a = gl p k := by
        have := hg 0 (by omega)
        rw [el] at this
        exact this
      have gR : gl p k < R := by
        rw [w.2.1.2.2]
        exact hVR _ (by omega) q2
      have pR : pf p k = 7 ∨ pf p k < R := by
        unfold pf
        by_cases c : k = 0
        · rw [if_pos c]
          exact Or.inl rfl
        · rw [if_neg c, w.2.1.2.2]
          have := p3 (k - 1) (by omega)
          exact Or.inr (hVR _ (by omega) this.2.1)
      obtain ⟨σ1, h1, k1, x1⟩ := P_rowAt h hI hV hb (k := k) (by omega)
      have w1 := w.ofL k1
      obtain ⟨z, z1, z2, z3⟩ := P_priceF w1 (f := pf p k) (j := gl p k) pR gR
      have pf1 : pf p (k + 1) = gl p k := by
        unfold pf
        rw [if_neg (by omega), Nat.add_sub_cancel]
      have la : lastI (pf p (k + 1)) = nI (gl p k) := by
        rw [pf1]
        exact if_neg (by omega)
      have hr2 : runP s (pf p (k + 1)) ((m + z : Nat) : Int) l' = some (v : Int) := by
        rw [el] at hr
        have hr : runP s a ((m : Int) + pc s (pf p k) a) l' = some (v : Int) := hr
        rw [ea, z2] at hr
        rw [pf1, show ((m + z : Nat) : Int) = (m : Int) + (z : Int) by omega]
        exact hr
      obtain ⟨σ2, h2, k2, x2⟩ := ih (k + 1) n (m + z) l' σ1 (by omega) (by omega) (by
        rw [el] at hl
        exact Nat.succ.inj hl) (fun i hi => by
        have := hg (i + 1) (by omega)
        rw [el] at this
        rw [show k + 1 + i = k + (i + 1) by omega]
        exact this) hr2 (by omega) h1 w1
      have b1 := bit6 V (by omega) (gl p k) (by omega)
      have b2 := bit7 (mkS p k) hS (gl p k) (by omega)
      have n1 : ¬ nI (mkS p k) = nI V := fun h9 => q4 ((nI_eq (by omega) (by omega)).mp h9)
      have n2 : ¬ (((nI V) >>> ((nI (gl p k)) &&& 31)) &&& 1) = 0 := fun h9 => by
        have := b1.1.mp h9
        rw [q2] at this
        exact nomatch this
      have n3 : ¬ (((nI (mkS p k)) >>> ((nI (gl p k)) &&& 31)) &&& 1) = 1 := fun h9 => by
        have := b2.1.mpr q3
        rw [this] at h9
        exact absurd h9 (by decide)
      refine ⟨σ2, h2, k1.tr k2, ?_⟩
      rw [fL_isClean_c38_s, if_neg n1, x1, if_neg n2, if_neg n3, z3 (fun r12 σ13 => fL_isClean_c96 (fL_isClean_c38 n) (nI V) (nI v) (nI (mkS p k)) (nI k) (nI (gl p k)) r12 (nI m) σ13)]
      unfold fL_isClean_c96
      rw [xl_t, xl_t, xl_t, nI_add, b2.2.1, ← nI_succ]
      rw [la] at x2
      exact x2
theorem P_isClean {N R : Nat} {σ : xSt} {H : List sS} {s : sS} {tx : (Nat → Int32) × Nat} (h : RX σ (H, s, tx)) (hG : GH N (H, s, tx)) (w : LW R σ s) : ∃ σ', RX σ' (H, s, tx) ∧ kX σ σ' ∧ fL_isClean σ = some (1, σ') := by
  have hI : Inv N s := hG.inv
  have hR := w.2.1
  obtain ⟨c1, c2, c3, c4⟩ := cV_full R (by omega)
  have hp2 : 2 ≤ 2 ^ R ∧ 2 ^ R ≤ 16 := by
    have : ∀ r, 1 ≤ r → r ≤ 4 → 2 ≤ 2 ^ r ∧ 2 ^ r ≤ 16 := by
      intro r r1 r2
      rcases (show r = 1 ∨ r = 2 ∨ r = 3 ∨ r = 4 by omega) with e | e | e | e <;> subst e <;> decide
    exact this R hR.1 hR.2.1
  obtain ⟨y, σ1, hy, e1, k1⟩ := P_nx σ (n := 2 ^ R - 1) (by omega) (by omega)
  have h1 := k53.RX k1 h
  have w1 := w.ofX k1.x
  have a1 : 1 + nI y = nI (y + 1) := by
    rw [Int32.add_comm]
    exact (Int32.ofNat_add y 1).symm
  have hV : y + 1 < 2 ^ cR s := by
    rw [← hR.2.2]
    omega
  have hVR := (set_in hI hV).2.2
  have hl4 := (row_fin (y + 1) (by omega)).2
  obtain ⟨v, p, v1, b1, m1, r1, _⟩ := P_best w1 (V := y + 1) (by omega) (fun a g1 g2 => by
    rw [hR.2.2]
    exact hVR a g1 g2) (by omega)
  have ok := List.all_eq_true.mp (row_fin (y + 1) (by omega)).1 p m1
  obtain ⟨p1, p2, p3⟩ := okQ_of ok
  obtain ⟨σ2, h2, k2, x2⟩ := P_cleaning h1 hI hV b1
  obtain ⟨σ3, h3, k3, x3⟩ := P_c38 (R := R) hI hV (by omega) (by omega) b1 ok p.length 0 xF6 0 p σ2 (by omega) (by have h9 : xF6 = 6 := rfl; omega) rfl (fun i _ => by rw [Nat.zero_add]) r1 (by omega) h2 (w1.ofL k2)
  refine ⟨σ3, h3, (k1.x.tr k2.x).tr k3.x, ?_⟩
  unfold fL_isClean
  rw [w.1.1, c3, xc2_s e1, xl_t, a1, x2]
  exact x3
