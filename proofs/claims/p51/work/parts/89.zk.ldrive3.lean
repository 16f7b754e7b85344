/-! isDriven: the ways one behind the other -/
theorem P_isRow0 {K : Nat} (hK : 1 ≤ K) (h4 : K ≤ 4) (σ : xSt) : ∀ (d k n V r : Nat), k + d = K → d < n → V < 128 → r < 100000 → fL_isRow_c7 n (nI K) (nI V) (nI r) (nI k) σ = some (if rowM K d V r = true then 1 else 0, σ) := by
  obtain ⟨c1, c2, c3, c4⟩ := cV_full K (by omega)
  intro d
  induction d with
  | zero =>
    intro k n V r hk hn hV hr
    match n, hn with
    | n + 1, _ =>
      obtain rfl : k = K := by omega
      rw [fL_isRow_c7_s, if_pos (nI_le (Nat.le_refl _) (by omega)), c3]
      have ev : rowM k 0 V r = (V == 2 ^ k - 1) := rfl
      rw [ev]
      by_cases c : V = 2 ^ k - 1
      · rw [if_pos (by rw [c]), if_pos (beq_iff_eq.mpr c)]
      · rw [if_neg (fun h9 => c ((nI_eq (by omega) (by omega)).mp h9)), if_neg (fun h9 => c (beq_iff_eq.mp h9))]
  | succ d ih =>
    intro k n V r hk hn hV hr
    match n, hn with
    | n + 1, hn =>
      have e10 : (10 : Int32) = nI 10 := rfl
      have ev : rowM K (d + 1) V r = (if r % 10 < K then rowM K d (oV V (r % 10)) (r / 10) else rowM K d V (r / 10)) := rfl
      rw [fL_isRow_c7_s, if_neg (nI_ge (by omega) (by omega)), e10, nI_rem (by omega) (by omega) (by decide), ev]
      unfold fL_isRow_c30
      by_cases c : r % 10 < K
      · have b7 := bit7 V hV (r % 10) (by omega)
        rw [if_neg (nI_ge c (by omega)), if_pos c, xl_t, b7.2.1, e10, nI_divN (by omega) (by omega) (by decide), xl_t, xl_t, ← nI_succ]
        exact ih (k + 1) n _ _ (by omega) (by omega) b7.2.2 (by omega)
      · rw [if_pos (nI_le (by omega) (by omega)), if_neg c, e10, nI_divN (by omega) (by omega) (by decide), xl_t, xl_t, ← nI_succ]
        exact ih (k + 1) n _ _ (by omega) (by omega) hV (by omega)
theorem P_isRow {K : Nat} (hK : 1 ≤ K) (h4 : K ≤ 4) (σ : xSt) {way : Nat} (hw : way < 100000) : fL_isRow (nI way) (nI K) σ = some (if rowM K K 0 way = true then 1 else 0, σ) :=
  P_isRow0 hK h4 σ K 0 xFU 0 way (by omega) (by have h9 : xFU = 8192 := rfl; omega) (by omega) hw
/-- the best of the ways before a number -/
def WQ (s : sS) (m way : Nat) (b t : Int32) : Prop := (b = 2147483647 ∧ ∀ c, c ∈ prm (cS s) (rg 0 (cS s)) → numP c (cS s) < way → runF s 0 0 m c = none) ∨ ∃ c e, c ∈ prm (cS s) (rg 0 (cS s)) ∧ numP c (cS s) < way ∧ runF s 0 0 m c = some e ∧ b.toInt = e ∧ t = nI (numP c (cS s)) ∧ ∀ d, d ∈ prm (cS s) (rg 0 (cS s)) → numP d (cS s) < way → ∀ z, runF s 0 0 m d = some z → e ≤ z ∧ (numP d (cS s) < numP c (cS s) → e < z)
theorem row_in {K : Nat} (h4 : K ≤ 4) {c : List Nat} (hc : c ∈ prm K (rg 0 K)) : ∀ a, a ∈ c → a < K := fun a ha => by
  have := prm_mem _ _ _ hc a ha
  have := (rg_mem _ _ _).mp this
  omega
theorem run_e {N : Nat} {s : sS} (hI : Inv N s) (h4 : cS s ≤ 4) {m : Nat} (hm : m ≤ 600) {c : List Nat} (hc : c ∈ prm (cS s) (rg 0 (cS s))) {e : Int} (he : runF s 0 0 m c = some e) : 0 ≤ e ∧ e ≤ 740 := by
  have h1 := run_ge hI c 0 0 m e (row_in h4 hc) (by omega) he
  have h2 := run_le hI c 0 0 m e (row_in h4 hc) (by omega) (by omega) (by omega) he
  omega
theorem P_c229 {N : Nat} {H : List sS} {s : sS} {tx : (Nat → Int32) × Nat} (hI : Inv N s) (h4 : cS s ≤ 4) {m : Nat} (hm : m ≤ 600) {e : Int} {p : List Nat} (hw : bestW s m = some (e, p)) (t : Int32) (ht : t = nI (numP p (cS s))) : ∀ (d k n : Nat) (σ : xSt), k + d = cS s → d < n → RX σ (H, s, tx) → ∃ σ', RX σ' (H, s, tx) ∧ kL σ σ' ∧ fL_isDriven_c229 n (nI (cS s)) (nI m) t (nI (numP p k)) (nI k) σ = some (1, σ') := by
  intro d
  induction d with
  | zero =>
    intro k n σ hk hn h
    match n, hn with
    | n + 1, _ =>
      obtain rfl : k = cS s := by omega
      refine ⟨σ, h, kL.rf, ?_⟩
      rw [fL_isDriven_c229_s, if_pos (nI_le (Nat.le_refl _) (by omega)), if_pos ht.symm]
  | succ d ih =>
    intro k n σ hk hn h
    match n, hn with
    | n + 1, hn =>
      obtain ⟨σ1, h1, k1, e1⟩ := xco_XR (σ := σ) (X_shopOfV h hI hm (k := k) (by omega) hw) rfl
      have h1 : RX σ1 (H, s, tx) := h1
      obtain ⟨σ2, h2, k2, e2⟩ := ih (k + 1) n σ1 (by omega) (by omega) h1
      refine ⟨σ2, h2, k1.tr k2, ?_⟩
      have e10 : (10 : Int32) = nI 10 := rfl
      rw [fL_isDriven_c229_s, if_neg (nI_ge (by omega) (by omega)), e1, e10, nI_mul, nI_add, xl_t, xl_t, ← nI_succ]
      exact e2
theorem P_c134 {N : Nat} {H : List sS} {s : sS} {tx : (Nat → Int32) × Nat} (hI : Inv N s) (hK : 1 ≤ cS s) (h4 : cS s ≤ 4) {m : Nat} (hm : m ≤ 600) : ∀ (d way n : Nat) (σ : xSt) (b t : Int32), way + d = 10 ^ cS s → d < n → RX σ (H, s, tx) → WQ s m way b t → ∃ σ', RX σ' (H, s, tx) ∧ kL σ σ' ∧ fL_isDriven_c134 n (nI (cS s)) (nI m) b t (nI (10 ^ cS s)) (nI way) σ = some (1, σ') := by
  have p4 : 10 ^ cS s ≤ 10 ^ 4 := Nat.pow_le_pow_right (by omega) h4
  intro d
  induction d with
  | zero =>
    intro way n σ b t hw hn h q
    match n, hn with
    | n + 1, _ =>
      obtain rfl : way = 10 ^ cS s := by omega
      rw [fL_isDriven_c134_s, if_pos (nI_le (Nat.le_refl _) (by omega))]
      have lt : ∀ c, c ∈ prm (cS s) (rg 0 (cS s)) → numP c (cS s) < 10 ^ cS s := fun c hc => (okW_of h4 hc).2.2.2.2
      obtain ⟨x1, x2⟩ := X_comesBackV h hI hm
      rcases q with ⟨q1, q2⟩ | ⟨c, e, q1, q2, q3, q4, q5, q6⟩
      · have hb : bestW s m = none := bs_none _ _ (fun c hc => q2 c hc (lt c hc))
        obtain ⟨σ1, g1, g2, g3⟩ := xch_r (σ := σ) (x1 hb) (-1)
        refine ⟨σ1, g1, g2, ?_⟩
        have e9 : fL_hasNoWay (nI m) σ = some (1, σ1) := by
          unfold fL_hasNoWay
          rw [xc2_s g3, if_neg (by decide)]
        rw [if_pos q1, xc2_s e9]
        exact xb_t1
      · have en := run_e hI h4 hm q1 q3
        have nb : ¬ b = 2147483647 := fun h9 => by
          rw [h9] at q4
          have : (2147483647 : Int32).toInt = 2147483647 := by decide
          omega
        cases hb : bestW s m with
        | none =>
          exfalso
          obtain ⟨e1, w1, g1, g2⟩ := bs_min (run := runF s 0 0 m) (pre := []) q3 (prm (cS s) (rg 0 (cS s))) none q1
          have hb : bs (runF s 0 0 m) [] none (prm (cS s) (rg 0 (cS s))) = none := hb
          rw [hb] at g1
          exact nomatch g1
        | some ep =>
          obtain ⟨e', p⟩ := ep
          obtain ⟨r, r1, r2, r3, r4⟩ := x2 e' p hb
          have hbs : bs (runF s 0 0 m) [] none (prm (cS s) (rg 0 (cS s))) = some (e', p) := hb
          have pm : p ∈ prm (cS s) (rg 0 (cS s)) ∧ runF s 0 0 m p = some e' := by
            rcases bs_is _ _ _ _ hbs with h9 | h9
            · exact nomatch h9
            · exact h9
          have le1 : e' ≤ e := by
            obtain ⟨e1, w1, g1, g2⟩ := bs_min (run := runF s 0 0 m) (pre := []) q3 (prm (cS s) (rg 0 (cS s))) none q1
            rw [hbs] at g1
            cases g1
            exact g2
          obtain ⟨le2, le3⟩ := q6 p pm.1 (lt p pm.1) e' pm.2
          have ee : e' = e := by omega
          have n1 : numP p (cS s) ≤ numP c (cS s) := bs_first _ none e' p (drv_fin (cS s) (by omega)).2 (fun _ _ h9 => nomatch h9) hbs c q1 (by rw [ee]; exact q3)
          have n2 : numP c (cS s) = numP p (cS s) := by
            by_cases g : numP p (cS s) < numP c (cS s)
            · have := le3 g
              omega
            · omega
          have rb : r = b := Int32.toInt_inj.mp (by omega)
          obtain ⟨σ1, g1, g2, g3⟩ := xco_XR (σ := σ) r4 rfl
          have g1 : RX σ1 (H, s, tx) := g1
          obtain ⟨σ2, k1, k2, k3⟩ := P_c229 (tx := tx) (H := H) hI h4 hm hb t (by rw [q5, n2]) (cS s) 0 xF6 σ1 (by omega) (by have h9 : xF6 = 6 := rfl; omega) g1
          refine ⟨σ2, k1, g2.tr k2, ?_⟩
          rw [if_neg nb, g3, if_pos rb]
          exact k3
  | succ d ih =>
    intro way n σ b t hw hn h q
    match n, hn with
    | n + 1, hn =>
      rw [fL_isDriven_c134_s, if_neg (nI_ge (by omega) (by omega)), xc2_s (P_isRow hK h4 σ (by omega))]
      by_cases c : rowM (cS s) (cS s) 0 way = true
      · obtain ⟨l, l1, l2⟩ := way_has hK h4 (by omega) c
        obtain ⟨r, r1, r2, r3⟩ := X_wayBackV h hI hm h4 l1
        rw [l2] at r1
        obtain ⟨σ1, g1, g2, g3⟩ := xco_XR (σ := σ) r1 rfl
        have g1 : RX σ1 (H, s, tx) := g1
        rw [if_pos c, if_neg (show ¬ (1 : Int32) = 0 by decide), g3]
        have uniq : ∀ x, x ∈ prm (cS s) (rg 0 (cS s)) → numP x (cS s) = way → runF s 0 0 m x = runF s 0 0 m l := fun x hx hn => by
          rw [srt_inj (drv_fin (cS s) (by omega)).2 hx l1 (hn.trans l2.symm)]
        cases hr : runF s 0 0 m l with
        | none =>
          have q' : WQ s m (way + 1) b t := by
            rcases q with ⟨q1, q2⟩ | ⟨x, e, q1, q2, q3, q4, q5, q6⟩
            · refine Or.inl ⟨q1, fun x hx hn => ?_⟩
              by_cases g : numP x (cS s) = way
              · rw [uniq x hx g]
                exact hr
              · exact q2 x hx (by omega)
            · refine Or.inr ⟨x, e, q1, by omega, q3, q4, q5, fun y hy hn z hz => ?_⟩
              by_cases g : numP y (cS s) = way
              · rw [uniq y hy g, hr] at hz
                exact nomatch hz
              · exact q6 y hy (by omega) z hz
          obtain ⟨σ2, k1, k2, k3⟩ := ih (way + 1) n σ1 b t (by omega) (by omega) g1 q'
          refine ⟨σ2, k1, g2.tr k2, ?_⟩
          rw [if_pos (r2 hr), xl_t, ← nI_succ]
          exact k3
        | some e0 =>
          have te := r3 e0 hr
          have en := run_e hI h4 hm l1 hr
          have n1 : ¬ r = -1 := fun h9 => by
            rw [h9] at te
            have : (-1 : Int32).toInt = -1 := by decide
            omega
          rw [if_neg n1]
          by_cases g : r < b
          · have q' : WQ s m (way + 1) r (nI way) := by
              refine Or.inr ⟨l, e0, l1, by omega, hr, te, by rw [l2], fun y hy hn z hz => ?_⟩
              by_cases gy : numP y (cS s) = way
              · rw [uniq y hy gy, hr] at hz
                cases hz
                exact ⟨Int.le_refl _, fun h9 => by omega⟩
              · rcases q with ⟨q1, q2⟩ | ⟨x, e, q1, q2, q3, q4, q5, q6⟩
                · rw [q2 y hy (by omega)] at hz
                  exact nomatch hz
                · have := (q6 y hy (by omega) z hz).1
                  rw [fa_lt] at g
                  exact ⟨by omega, fun _ => by omega⟩
            obtain ⟨σ2, k1, k2, k3⟩ := ih (way + 1) n σ1 r (nI way) (by omega) (by omega) g1 q'
            refine ⟨σ2, k1, g2.tr k2, ?_⟩
            rw [if_pos g, xl_t, ← nI_succ]
            exact k3
          · have q' : WQ s m (way + 1) b t := by
              rcases q with ⟨q1, q2⟩ | ⟨x, e, q1, q2, q3, q4, q5, q6⟩
              · exfalso
                rw [fa_lt, q1, te] at g
                have : (2147483647 : Int32).toInt = 2147483647 := by decide
                omega
              · refine Or.inr ⟨x, e, q1, by omega, q3, q4, q5, fun y hy hn z hz => ?_⟩
                by_cases gy : numP y (cS s) = way
                · rw [uniq y hy gy, hr] at hz
                  cases hz
                  rw [fa_lt] at g
                  exact ⟨by omega, fun h9 => by omega⟩
                · exact q6 y hy (by omega) z hz
            obtain ⟨σ2, k1, k2, k3⟩ := ih (way + 1) n σ1 b t (by omega) (by omega) g1 q'
            refine ⟨σ2, k1, g2.tr k2, ?_⟩
            rw [if_neg g, xl_t, ← nI_succ]
            exact k3
      · have q' : WQ s m (way + 1) b t := by
          have no : ∀ x, x ∈ prm (cS s) (rg 0 (cS s)) → ¬ numP x (cS s) = way := fun x hx hn => c (by rw [← hn]; exact (okW_of h4 hx).2.2.2.1)
          rcases q with ⟨q1, q2⟩ | ⟨x, e, q1, q2, q3, q4, q5, q6⟩
          · exact Or.inl ⟨q1, fun x hx hn => q2 x hx (by have := no x hx; omega)⟩
          · exact Or.inr ⟨x, e, q1, by omega, q3, q4, q5, fun y hy hn z hz => q6 y hy (by have := no y hy; omega) z hz⟩
        obtain ⟨σ2, k1, k2, k3⟩ := ih (way + 1) n σ b t (by omega) (by omega) h q'
        refine ⟨σ2, k1, k2, ?_⟩
        rw [if_neg c, if_pos rfl, xl_t, ← nI_succ]
        exact k3
theorem P_c112 {K : Nat} (h4 : K ≤ 4) (a2 a3 a4 : Int32) (σ : xSt) : ∀ (d k n : Nat), k + d = K → d < n → fL_isDriven_c112 n (nI K) a2 a3 a4 (nI (10 ^ k)) (nI k) σ = fL_isDriven_c134 xF10002 (nI K) a2 a3 a4 (nI (10 ^ K)) 0 σ := by
  intro d
  induction d with
  | zero =>
    intro k n hk hn
    match n, hn with
    | n + 1, _ =>
      obtain rfl : k = K := by omega
      rw [fL_isDriven_c112_s, if_pos (nI_le (Nat.le_refl _) (by omega))]
  | succ d ih =>
    intro k n hk hn
    match n, hn with
    | n + 1, hn =>
      have e10 : (10 : Int32) = nI 10 := rfl
      rw [fL_isDriven_c112_s, if_neg (nI_ge (by omega) (by omega)), e10, nI_mul, xl_t, xl_t, ← nI_succ, ← Nat.pow_succ]
      exact ih (k + 1) n (by omega) (by omega)
theorem P_c13 {K : Nat} (hK : 1 ≤ K) (h4 : K ≤ 4) {tx : (Nat → Int32) × Nat} : ∀ (d n N : Nat) (σ : xSt) (H : List sS) (s : sS), cS s + d = K → d < n → RX σ (H, s, tx) → GH N (H, s, tx) → ∃ σ' H' s', RX σ' (H', s', tx) ∧ GH (N + d) (H', s', tx) ∧ (∀ q, (q < 625 ∧ q ≠ 7) → s' q = s q) ∧ kX σ σ' ∧ fL_isDriven_c13 n (nI K) (nI (cS s)) σ = some (1, σ') := by
  intro d
  induction d with
  | zero =>
    intro n N σ H s hk hn h hG
    match n, hn with
    | n + 1, _ =>
      have hI : Inv N s := hG.inv
      have ek : cS s = K := by omega
      obtain ⟨m, σ1, hm, e1, k1⟩ := P_nx σ (n := 40) (by omega) (by omega)
      have e1 : fX12_next 40 σ = some (nI m, σ1) := e1
      have p4 : 10 ^ cS s ≤ 10 ^ 4 := Nat.pow_le_pow_right (by omega) (by omega)
      obtain ⟨σ2, h2, k2, e2⟩ := P_c134 (tx := tx) (H := H) hI (by omega) (by omega) (m := m) (by omega) (10 ^ cS s) 0 xF10002 σ1 2147483647 0 (by omega) (by have h9 : xF10002 = 10002 := rfl; omega) (k53.RX k1 h) (Or.inl ⟨rfl, fun c _ h9 => absurd h9 (Nat.not_lt_zero _)⟩)
      refine ⟨σ2, H, s, h2, hG, fun _ _ => rfl, k1.x.tr k2.x, ?_⟩
      have e3 := P_c112 (K := K) h4 (nI m) 2147483647 0 σ1 K 0 xFU (by omega) (by have h9 : xFU = 8192 := rfl; omega)
      rw [ek] at e2
      rw [fL_isDriven_c13_s, ek, if_pos (nI_le (Nat.le_refl _) (by omega)), xc2_s e1]
      exact e3.trans e2
  | succ d ih =>
    intro n N σ H s hk hn h hG
    match n, hn with
    | n + 1, hn =>
      obtain ⟨o, σ1, ho, e1, k1⟩ := P_nx σ (n := 80) (by omega) (by omega)
      have e1 : fX12_next 80 σ = some (nI o, σ1) := e1
      obtain ⟨x, σ2, hx, e2, k2⟩ := P_nx σ1 (n := 21) (by omega) (by omega)
      have e2 : fX12_next 21 σ1 = some (nI x, σ2) := e2
      obtain ⟨y, σ3, hy, e3, k3⟩ := P_nx σ2 (n := 21) (by omega) (by omega)
      have e3 : fX12_next 21 σ2 = some (nI y, σ3) := e3
      obtain ⟨c, σ4, hc, e4, k4⟩ := P_nx σ3 (n := 120) (by omega) (by omega)
      have e4 : fX12_next 120 σ3 = some (nI c, σ4) := e4
      obtain ⟨t, σ5, ht, e5, k5⟩ := P_nx σ4 (n := 10) (by omega) (by omega)
      have e5 : fX12_next 10 σ4 = some (nI t, σ5) := e5
      have e20 : (20 : Int32) = nI 20 := rfl
      obtain ⟨σ6, s6, h6, g6, b6, c6, k6, e6⟩ := P_addShop (k53.RX k5 (k53.RX k4 (k53.RX k3 (k53.RX k2 (k53.RX k1 h))))) hG (x := x) (y := y) (o := o) (c := o + 20 + c) (t := t) (by omega) (by omega) (by omega) (by omega) (by omega) (by omega)
      obtain ⟨σ7, H7, s7, h7, g7, b7, k7, e7⟩ := ih n (N + 1) σ6 (kp H s) s6 (by omega) (by omega) h6 g6
      refine ⟨σ7, H7, s7, h7, g7.le (by omega), fun q hq => (b7 q hq).trans (b6 q hq), ((((((k1.x.tr k2.x).tr k3.x).tr k4.x).tr k5.x).tr k6.x).tr k7), ?_⟩
      rw [fL_isDriven_c13_s, if_neg (nI_ge (by omega) (by omega)), xc2_s e1, xc2_s e2, xc2_s e3, xc2_s e4, xc2_s e5, e20, nI_add, nI_add, e6, if_pos rfl, xl_t, ← nI_succ, ← c6]
      exact e7
theorem P_isDriven {N R : Nat} {σ : xSt} {H : List sS} {s : sS} {tx : (Nat → Int32) × Nat} (h : RX σ (H, s, tx)) (hG : GH N (H, s, tx)) (w : LW R σ s) (hz : cS s = 0) : ∃ σ' H' s', RX σ' (H', s', tx) ∧ GH (N + 4) (H', s', tx) ∧ LW R σ' s' ∧ fL_isDriven σ = some (1, σ') := by
  obtain ⟨y, σ1, hy, e1, k1⟩ := P_nx σ (n := 4) (by omega) (by omega)
  have e1 : fX12_next 4 σ = some (nI y, σ1) := e1
  have a1 : 1 + nI y = nI (y + 1) := by
    rw [Int32.add_comm]
    exact (Int32.ofNat_add y 1).symm
  obtain ⟨σ2, H2, s2, h2, g2, b2, k2, e2⟩ := P_c13 (K := y + 1) (by omega) (by omega) (y + 1) xF6 N σ1 H s (by omega) (by have h9 : xF6 = 6 := rfl; omega) (k53.RX k1 h) hG
  refine ⟨σ2, H2, s2, h2, g2.le (by omega), w.act (k1.x.tr k2) (fun q hq => b2 q (by omega)), ?_⟩
  rw [hz] at e2
  unfold fL_isDriven
  rw [xc2_s e1, xl_t, a1]
  exact e2
