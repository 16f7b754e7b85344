/-! ===== ERRORS: orders, and no way that comes back earlier ===== -/
def ordIs (q0 : Nat) (σ : xSt) (l : List Nat) : Prop := ∀ k, k < l.length → gl l k < 1000 ∧ σ q0 k = nI (gl l k)
def swQ (Q : List Nat → Prop) : Prop := ∀ (l : List Nat) (i j : Nat), i < l.length → j < l.length → Q l → Q (sw l i j)
theorem X_swap {q0 n0 : Nat} {σ : xSt} {l : List Nat} (h : ordIs q0 σ l) (hn : l.length ≤ n0) (hn2 : n0 ≤ 100) {i j : Nat} (hi : i < l.length) (hj : j < l.length) : ∃ σ', fX11_swap q0 n0 (nI i) (nI j) σ = some σ' ∧ ordIs q0 σ' (sw l i j) ∧ ∀ q, q ≠ q0 → σ' q = σ q := by
  unfold fX11_swap
  rw [xr_n (by omega) (by omega), xr_n (by omega) (by omega), xs_n (by omega) (by omega), xs_n (by omega) (by omega)]
  refine ⟨_, rfl, fun k hk => ?_, fun q hq => by rw [xu_ne _ _ _ hq, xu_ne _ _ _ hq]⟩
  rw [sw_len] at hk
  rw [gl_sw l hi hj, xu_at, xu_at]
  by_cases e : k = j
  · rw [if_pos e, e, upd_at]; exact h i hi
  · rw [if_neg e, upd_ne _ _ e]
    by_cases e2 : k = i
    · rw [if_pos e2, e2, upd_at]; exact h j hj
    · rw [if_neg e2, upd_ne _ _ e2]; exact h k hk
theorem X_turns {Q : List Nat → Prop} (hQ : swQ Q) {q0 n0 : Nat} (hn2 : n0 ≤ 100) : ∀ (m i j n : Nat) (σ : xSt) (l : List Nat), ordIs q0 σ l → Q l → l.length ≤ n0 → j < l.length → j ≤ i + m → m < n → i ≤ 100 → ∃ σ' l', fX11_makeNextOrder_c71 q0 n0 n (nI i) (nI j) σ = some (1, σ') ∧ ordIs q0 σ' l' ∧ Q l' ∧ l'.length = l.length ∧ ∀ q, q ≠ q0 → σ' q = σ q := by
  intro m
  induction m with
  | zero =>
    intro i j n σ l h hq hl hj hm hn hi
    obtain ⟨n, rfl⟩ : ∃ z, n = z + 1 := ⟨n - 1, by omega⟩
    rw [fX11_makeNextOrder_c71_s, if_pos (nI_le (by omega) (by omega))]
    exact ⟨σ, l, rfl, h, hq, rfl, fun _ _ => rfl⟩
  | succ m ih =>
    intro i j n σ l h hq hl hj hm hn hi
    obtain ⟨n, rfl⟩ : ∃ z, n = z + 1 := ⟨n - 1, by omega⟩
    by_cases c : i < j
    · rw [fX11_makeNextOrder_c71_s, if_neg (nI_ge c (by omega))]
      obtain ⟨σ1, e1, e2, e3⟩ := X_swap h hl hn2 (i := i) (j := j) (by omega) hj
      obtain ⟨σ2, l2, g1, g2, g3, g4, g5⟩ := ih (i + 1) (j - 1) n σ1 (sw l i j) e2 (hQ l i j (by omega) hj hq) (by rw [sw_len]; exact hl) (by rw [sw_len]; omega) (by omega) (by omega) (by omega)
      refine ⟨σ2, l2, ?_, g2, g3, g4.trans (sw_len l i j), fun q hq2 => (g5 q hq2).trans (e3 q hq2)⟩
      rw [e1, xc_t, xl_t, xl_t, nI_1, show (-1 : Int32) = -nI 1 from rfl, nI_addneg (by omega)]
      exact g1
    · rw [fX11_makeNextOrder_c71_s, if_pos (nI_le (by omega) (by omega))]
      exact ⟨σ, l, rfl, h, hq, rfl, fun _ _ => rfl⟩
theorem X_greater {Q : List Nat → Prop} (hQ : swQ Q) {q0 n0 : Nat} (hn2 : n0 ≤ 100) {σ : xSt} {l : List Nat} (h : ordIs q0 σ l) (hq : Q l) (hl : l.length ≤ n0) {k : Nat} (hk : k < l.length) : ∀ (o n : Nat), o < l.length → o < n → ∃ σ' l', fX11_makeNextOrder_c35 q0 n0 n (nI l.length) (nI k) (nI o) σ = some (1, σ') ∧ ordIs q0 σ' l' ∧ Q l' ∧ l'.length = l.length ∧ ∀ q, q ≠ q0 → σ' q = σ q := by
  have fin : ∀ o, o < l.length → ∃ σ' l', fX11_makeNextOrder_c55 q0 n0 (nI l.length) (nI k) (nI o) σ = some (1, σ') ∧ ordIs q0 σ' l' ∧ Q l' ∧ l'.length = l.length ∧ ∀ q, q ≠ q0 → σ' q = σ q := fun o ho => by
    obtain ⟨σ1, e1, e2, e3⟩ := X_swap h hl hn2 (i := k) (j := o) hk ho
    obtain ⟨σ2, l2, g1, g2, g3, g4, g5⟩ := X_turns hQ hn2 l.length (k + 1) (l.length - 1) xFU σ1 (sw l k o) e2 (hQ l k o hk ho hq) (by rw [sw_len]; exact hl) (by rw [sw_len]; omega) (by omega) (by show _ < 8192; omega) (by omega)
    refine ⟨σ2, l2, ?_, g2, g3, g4.trans (sw_len l k o), fun q hq2 => (g5 q hq2).trans (e3 q hq2)⟩
    unfold fX11_makeNextOrder_c55
    rw [e1, xc_t, xl_t, nI_1, xl_t, show nI l.length - 1 = nI (l.length - 1) from by
      obtain ⟨z, hz⟩ : ∃ z, l.length = z + 1 := ⟨l.length - 1, by omega⟩
      rw [hz]; exact nI_pred z]
    exact g1
  intro o
  induction o with
  | zero =>
    intro n ho hn
    obtain ⟨n, rfl⟩ : ∃ z, n = z + 1 := ⟨n - 1, by omega⟩
    rw [fX11_makeNextOrder_c35_s, if_pos (nI_le (Nat.zero_le _) (by omega))]
    exact fin 0 ho
  | succ o ih =>
    intro n ho hn
    obtain ⟨n, rfl⟩ : ∃ z, n = z + 1 := ⟨n - 1, by omega⟩
    rw [fX11_makeNextOrder_c35_s]
    by_cases c : nI (o + 1) ≤ nI k
    · rw [if_pos c]; exact fin (o + 1) ho
    · rw [if_neg c, xr_n (by omega) (by omega), xr_n (by omega) (by omega)]
      by_cases c2 : σ q0 k ≤ σ q0 (o + 1)
      · rw [if_pos c2]; exact fin (o + 1) ho
      · rw [if_neg c2, xl_t, show (-1 : Int32) = -nI 1 from rfl, nI_addneg (by omega)]
        exact ih n (by omega) (by omega)
theorem X_turnAt {Q : List Nat → Prop} (hQ : swQ Q) {q0 n0 : Nat} (hn2 : n0 ≤ 100) {σ : xSt} {l : List Nat} (h : ordIs q0 σ l) (hq : Q l) (hl : l.length ≤ n0) : ∀ (j n : Nat), j < l.length → j < n → ∃ r σ' l', fX11_makeNextOrder_c4 q0 n0 n (nI l.length) (nI j - 1) σ = some (r, σ') ∧ ordIs q0 σ' l' ∧ Q l' ∧ l'.length = l.length ∧ ∀ q, q ≠ q0 → σ' q = σ q := by
  intro j
  induction j with
  | zero =>
    intro n hj hn
    obtain ⟨n, rfl⟩ : ∃ z, n = z + 1 := ⟨n - 1, by omega⟩
    rw [fX11_makeNextOrder_c4_s, if_pos (show nI 0 - 1 < 0 by decide)]
    unfold fX11_makeNextOrder_c25
    rw [if_neg (show ¬ 0 ≤ nI 0 - 1 by decide)]
    exact ⟨0, σ, l, rfl, h, hq, rfl, fun _ _ => rfl⟩
  | succ j ih =>
    intro n hj hn
    obtain ⟨n, rfl⟩ : ∃ z, n = z + 1 := ⟨n - 1, by omega⟩
    rw [show nI (j + 1) - 1 = nI j from nI_pred j, fX11_makeNextOrder_c4_s, if_neg (show ¬ nI j < 0 from fun h9 => by rw [fa_lt, nI_toInt (by omega)] at h9; have h9 : (j : Int) < 0 := h9; omega), xr_n (by omega) (by omega), nI_1, xr_n (by omega) (by omega)]
    by_cases c : σ q0 j ≤ σ q0 (j + 1)
    · rw [if_pos c]
      unfold fX11_makeNextOrder_c25
      rw [if_pos (show (0 : Int32) ≤ nI j from nI_le (a := 0) (b := j) (Nat.zero_le _) (by omega)), xl_t, show nI l.length - 1 = nI (l.length - 1) from by
        obtain ⟨z, hz⟩ : ∃ z, l.length = z + 1 := ⟨l.length - 1, by omega⟩
        rw [hz]; exact nI_pred z]
      obtain ⟨σ', l', g⟩ := X_greater hQ hn2 h hq hl (k := j) (by omega) (l.length - 1) xFU (by omega) (by show _ < 8192; omega)
      exact ⟨1, σ', l', g⟩
    · rw [if_neg c, xl_t, show nI j + (-1) = nI j - 1 from (Int32.sub_eq_add_neg _ _).symm]
      exact ih n (by omega) (by omega)
theorem X_nextOrder {Q : List Nat → Prop} (hQ : swQ Q) {q0 n0 : Nat} (hn2 : n0 ≤ 100) {σ : xSt} {l : List Nat} (h : ordIs q0 σ l) (hq : Q l) (hl : l.length ≤ n0) : ∃ r σ' l', fX11_makeNextOrder q0 n0 (nI l.length) σ = some (r, σ') ∧ ordIs q0 σ' l' ∧ Q l' ∧ l'.length = l.length ∧ ∀ q, q ≠ q0 → σ' q = σ q := by
  unfold fX11_makeNextOrder
  rw [xl_t]
  by_cases c : l.length = 0
  · rw [c]
    show ∃ r σ' l', fX11_makeNextOrder_c4 q0 n0 (8191 + 1) (nI 0) (nI 0 - 2) σ = some (r, σ') ∧ _
    rw [fX11_makeNextOrder_c4_s, if_pos (show nI 0 - 2 < 0 by decide)]
    unfold fX11_makeNextOrder_c25
    rw [if_neg (show ¬ 0 ≤ nI 0 - 2 by decide)]
    exact ⟨0, σ, l, rfl, h, hq, c, fun _ _ => rfl⟩
  · have e2 : nI l.length - 2 = nI (l.length - 1) - 1 := by
      obtain ⟨z, hz⟩ : ∃ z, l.length = z + 1 := ⟨l.length - 1, by omega⟩
      rw [hz, show z + 1 - 1 = z by omega, fa_eq]
      rw [i32_sub (by rw [nI_toInt (by omega)]; show _ ≤ _ - (2 : Int); omega) (by rw [nI_toInt (by omega)]; show _ - (2 : Int) < _; omega), i32_sub (by rw [nI_toInt (by omega)]; show _ ≤ _ - (1 : Int); omega) (by rw [nI_toInt (by omega)]; show _ - (1 : Int) < _; omega), nI_toInt (by omega), nI_toInt (by omega)]
      show _ - (2 : Int) = _ - (1 : Int)
      omega
    rw [e2]
    exact X_turnAt hQ hn2 h hq hl (l.length - 1) xFU (by omega) (by show _ < 8192; omega)
/-! orders of a set -/
def Pm (P : Nat → Prop) (l : List Nat) : Prop := (∀ a b, a < l.length → b < l.length → gl l a = gl l b → a = b) ∧ ∀ k, P k ↔ ∃ a, a < l.length ∧ gl l a = k
def trp (i j p : Nat) : Nat := if p = j then i else if p = i then j else p
theorem trp_two (i j p : Nat) : trp i j (trp i j p) = p := by
  unfold trp
  by_cases h1 : p = j
  · rw [if_pos h1]
    by_cases h2 : i = j
    · rw [if_pos h2]; omega
    · rw [if_neg h2, if_pos rfl]; omega
  · rw [if_neg h1]
    by_cases h2 : p = i
    · rw [if_pos h2, if_pos rfl]; omega
    · rw [if_neg h2, if_neg h1, if_neg h2]
theorem trp_lt {n i j p : Nat} (hi : i < n) (hj : j < n) (hp : p < n) : trp i j p < n := by
  unfold trp
  split
  · exact hi
  · split
    · exact hj
    · exact hp
theorem gl_trp (l : List Nat) {i j : Nat} (hi : i < l.length) (hj : j < l.length) (p : Nat) : gl (sw l i j) p = gl l (trp i j p) := by
  rw [gl_sw l hi hj]
  unfold trp
  split
  · rfl
  · split <;> rfl
theorem Pm_sw (P : Nat → Prop) : swQ (Pm P) := by
  intro l i j hi hj ⟨h1, h2⟩
  refine ⟨fun a b ha hb hab => ?_, fun k => ?_⟩
  · rw [sw_len] at ha hb
    rw [gl_trp l hi hj, gl_trp l hi hj] at hab
    have e := h1 _ _ (trp_lt hi hj ha) (trp_lt hi hj hb) hab
    have := congrArg (trp i j) e
    rw [trp_two, trp_two] at this
    exact this
  · rw [h2 k]
    constructor
    · intro ⟨a, ha, e⟩
      refine ⟨trp i j a, by rw [sw_len]; exact trp_lt hi hj ha, ?_⟩
      rw [gl_trp l hi hj, trp_two]; exact e
    · intro ⟨a, ha, e⟩
      rw [sw_len] at ha
      rw [gl_trp l hi hj] at e
      exact ⟨trp i j a, trp_lt hi hj ha, e⟩
theorem mem_gl {c : List Nat} {a : Nat} (h : a ∈ c) : ∃ k, k < c.length ∧ gl c k = a := by
  obtain ⟨k, hk, e⟩ := List.mem_iff_getElem.mp h
  refine ⟨k, hk, ?_⟩
  unfold gl
  rw [List.getD_eq_getElem?_getD, List.getElem?_eq_getElem hk, ← e]
  rfl
theorem prm_all : ∀ (c r : List Nat), (∀ a b, a < c.length → b < c.length → gl c a = gl c b → a = b) → (∀ a, a ∈ c → a ∈ r) → c ∈ prm c.length r
  | [], r, _, _ => List.mem_singleton.mpr rfl
  | x :: c, r, hn, hm => by
    show x :: c ∈ r.flatMap fun x => (prm c.length (r.filter (fun y => y != x))).map (fun c => x :: c)
    refine List.mem_flatMap.mpr ⟨x, hm x List.mem_cons_self, List.mem_map.mpr ⟨c, prm_all c _ (fun a b ha hb hab => ?_) (fun a ha => ?_), rfl⟩⟩
    · have := hn (a + 1) (b + 1) (Nat.succ_lt_succ ha) (Nat.succ_lt_succ hb) hab
      omega
    · refine List.mem_filter.mpr ⟨hm a (List.mem_cons_of_mem _ ha), ?_⟩
      obtain ⟨k, hk, e⟩ := mem_gl ha
      have hne : a ≠ x := fun e2 => by
        have := hn (k + 1) 0 (Nat.succ_lt_succ hk) (Nat.zero_lt_succ _) (by show gl c k = x; rw [e, e2])
        omega
      exact bne_iff_ne.mpr hne
theorem bs_le {run : List Nat → Option Int} {pre : List Nat} : ∀ (L : List (List Nat)) (e0 : Int) (w0 : List Nat), ∃ e1 w1, bs run pre (some (e0, w0)) L = some (e1, w1) ∧ e1 ≤ e0
  | [], e0, w0 => ⟨e0, w0, rfl, Int.le_refl _⟩
  | c :: t, e0, w0 => by
    show ∃ e1 w1, bs run pre (stB (some (e0, w0)) (run c) (pre ++ c)) t = some (e1, w1) ∧ e1 ≤ e0
    cases run c with
    | none => exact bs_le t e0 w0
    | some e =>
      show ∃ e1 w1, bs run pre (if e < e0 then some (e, pre ++ c) else some (e0, w0)) t = some (e1, w1) ∧ e1 ≤ e0
      by_cases g : e < e0
      · rw [if_pos g]
        obtain ⟨e1, w1, h1, h2⟩ := bs_le (run := run) (pre := pre) t e (pre ++ c)
        exact ⟨e1, w1, h1, by omega⟩
      · rw [if_neg g]
        exact bs_le t e0 w0
theorem bs_min {run : List Nat → Option Int} {pre : List Nat} {c : List Nat} {e : Int} (hr : run c = some e) : ∀ (L : List (List Nat)) (b : Option (Int × List Nat)), c ∈ L → ∃ e1 w1, bs run pre b L = some (e1, w1) ∧ e1 ≤ e
  | x :: t, b, hc => by
    by_cases g : c ∈ t
    · exact bs_min hr t _ g
    · have ex : c = x := by
        rcases List.mem_cons.mp hc with h | h
        · exact h
        · exact absurd h g
      show ∃ e1 w1, bs run pre (stB b (run x) (pre ++ x)) t = some (e1, w1) ∧ e1 ≤ e
      rw [← ex, hr]
      cases b with
      | none => exact bs_le t e (pre ++ c)
      | some b =>
        obtain ⟨e0, w0⟩ := b
        show ∃ e1 w1, bs run pre (if e < e0 then some (e, pre ++ c) else some (e0, w0)) t = some (e1, w1) ∧ e1 ≤ e
        by_cases g2 : e < e0
        · rw [if_pos g2]; exact bs_le t e (pre ++ c)
        · rw [if_neg g2]
          obtain ⟨e1, w1, h1, h2⟩ := bs_le (run := run) (pre := pre) t e0 w0
          exact ⟨e1, w1, h1, by omega⟩
/-! no way comes back earlier -/
theorem X_earlyLoop {N : Nat} {H : List sS} {s : sS} {tx : (Nat → Int32) × Nat} (hI : Inv N s) : ∀ (d t n : Nat) (σ : xSt) (l : List Nat), t + d = 120 → d < n → RX σ (H, s, tx) → wB s σ (bestW s 0) → ordIs 45 σ l → l.length = cS s → Pm (fun k => k < cS s) l → ∃ σ', fX1_hasEarlierWay_c41 n (match bestW s 0 with | none => 0 | some _ => 1) (nI t) σ = some (0, σ') ∧ RX σ' (H, s, tx) ∧ fX σ σ' := by
  have h7 := hI.caps.2.2.1
  have e7 : s 7 = nI (cS s) := hI.caps.2.2.2.2.2.2.2.1
  intro d
  induction d with
  | zero =>
    intro t n σ l ht hn h hb ho hl hp
    obtain ⟨n, rfl⟩ : ∃ z, n = z + 1 := ⟨n - 1, by omega⟩
    obtain rfl : t = 120 := by omega
    rw [fX1_hasEarlierWay_c41_s, if_pos (show (120 : Int32) ≤ nI 120 by decide)]
    exact ⟨σ, rfl, h, fX.refl σ⟩
  | succ d ih =>
    intro t n σ l ht hn h hb ho hl hp
    obtain ⟨n, rfl⟩ : ∃ z, n = z + 1 := ⟨n - 1, by omega⟩
    have a5 : σ 38 5 = nI (cS s) := (X_at_nshop h).trans e7
    have hel : ∀ k, k < l.length → gl l k < cS s := fun k hk => (hp.2 _).mpr ⟨k, hk, rfl⟩
    obtain ⟨r, w1, w2, w3⟩ := X_walk h hI hl (fun k hk => ⟨hel k hk, (ho k hk).2⟩) l.length 0 xFU 0 7 0 0 (Nat.zero_add _) (by show _ < 8192; omega) ⟨by decide, by decide⟩ (fco_home h)
    have w2 : runF s 0 0 0 l = none → r = -1 := w2
    have w3 : ∀ e, runF s 0 0 0 l = some e → r.toInt = e := w3
    -- the next order
    have next : ∃ σ', fX1_hasEarlierWay_c72 (fX1_hasEarlierWay_c41 n) (match bestW s 0 with | none => 0 | some _ => 1) (nI t) σ = some (0, σ') ∧ RX σ' (H, s, tx) ∧ fX σ σ' := by
      obtain ⟨r7, σ1, l1, n1, n2, n3, n4, n5⟩ := X_nextOrder (Pm_sw (fun k => k < cS s)) (q0 := 45) (n0 := 7) (by decide) ho hp (by omega)
      have f1 : fX σ σ1 := fX.one 45 (by decide) (by decide) n5
      unfold fX1_hasEarlierWay_c72
      rw [a5, ← hl, n1, xc2_t]
      by_cases c : r7 = 0
      · rw [if_pos c]; exact ⟨σ1, rfl, h.scr f1, f1⟩
      · rw [if_neg c, xl_t, nI_1]
        obtain ⟨σ2, g1, g2, g3⟩ := ih (t + 1) n σ1 l1 (by omega) (by omega) (h.scr f1) (hb.frame (by rw [n5 38 (by decide)]) (n5 44 (by decide))) n2 (n4.trans hl) n3
        exact ⟨σ2, g1, g2, f1.trans g3⟩
    rw [fX1_hasEarlierWay_c41_s, if_neg (show ¬ (120 : Int32) ≤ nI t from nI_ge (a := t) (b := 120) (by omega) (by decide))]
    unfold fX1_walk
    rw [show fX1_walk_c8 xFU 0 7 0 σ = some (r, σ) from w1, xc2_t]
    cases hr : runF s 0 0 0 l with
    | none =>
      rw [if_pos (w2 hr)]
      exact next
    | some e =>
      have k1 := w3 e hr
      have k2 := run_ge hI l 0 0 0 e (fun a ha => by obtain ⟨k, hk, e⟩ := mem_gl ha; rw [← e]; exact hel k hk) (Int.le_refl _) hr
      have hmem : l ∈ prm (cS s) (rg 0 (cS s)) := by
        have := prm_all l (rg 0 (cS s)) hp.1 (fun a ha => by
          obtain ⟨k, hk, e⟩ := mem_gl ha
          have := hel k hk
          exact (rg_mem _ _ _).mpr (by omega))
        rw [hl] at this
        exact this
      obtain ⟨e1, w1', b1, b2⟩ := bs_min (run := runF s 0 0 0) (pre := []) hr (prm (cS s) (rg 0 (cS s))) none hmem
      have b1 : bestW s 0 = some (e1, w1') := b1
      have hb2 := hb
      rw [b1] at hb2
      have z : ¬ (match bestW s 0 with | none => (0 : Int32) | some _ => 1) = 0 := by rw [b1]; show ¬ (1 : Int32) = 0; decide
      rw [if_neg (show ¬ r = -1 from fun h9 => by rw [h9] at k1; have k1 : (-1 : Int) = e := k1; omega), if_neg z, if_pos (show σ 38 7 ≤ r from (fa_le _ _).mpr (by rw [hb2.1, k1]; exact b2))]
      exact next
theorem X_earlyInit {N : Nat} {H : List sS} {s : sS} {tx : (Nat → Int32) × Nat} (hI : Inv N s) : ∀ (d k n : Nat) (σ : xSt), k + d = cS s → d < n → RX σ (H, s, tx) → wB s σ (bestW s 0) → (∀ j, j < k → σ 45 j = nI j) → ∃ σ', fX1_hasEarlierWay_c18 n (match bestW s 0 with | none => 0 | some _ => 1) (nI k) σ = some (0, σ') ∧ RX σ' (H, s, tx) ∧ fX σ σ' := by
  have h7 := hI.caps.2.2.1
  have e7 : s 7 = nI (cS s) := hI.caps.2.2.2.2.2.2.2.1
  intro d
  induction d with
  | zero =>
    intro k n σ hk hn h hb hj
    obtain ⟨n, rfl⟩ : ∃ z, n = z + 1 := ⟨n - 1, by omega⟩
    obtain rfl : k = cS s := by omega
    have a5 : σ 38 5 = nI (cS s) := (X_at_nshop h).trans e7
    rw [fX1_hasEarlierWay_c18_s, a5, if_pos (nI_le (Nat.le_refl _) (by omega))]
    refine X_earlyLoop hI 120 0 xFU σ (rg 0 (cS s)) rfl (by decide) h hb (fun j h9 => ?_) (rg_len _ _) ⟨fun a b ha hb2 hab => ?_, fun k => ?_⟩
    · rw [rg_len] at h9
      rw [gl_rg _ _ _ h9, Nat.zero_add]
      exact ⟨by omega, hj j h9⟩
    · rw [rg_len] at ha hb2
      rw [gl_rg _ _ _ ha, gl_rg _ _ _ hb2] at hab
      omega
    · rw [rg_len]
      constructor
      · intro h9; exact ⟨k, h9, by rw [gl_rg _ _ _ h9]; omega⟩
      · intro ⟨a, ha, e⟩
        rw [gl_rg _ _ _ ha] at e
        show k < cS s
        omega
  | succ d ih =>
    intro k n σ hk hn h hb hj
    obtain ⟨n, rfl⟩ : ∃ z, n = z + 1 := ⟨n - 1, by omega⟩
    have a5 : σ 38 5 = nI (cS s) := (X_at_nshop h).trans e7
    have f1 : fX σ (xu σ 45 k (nI k)) := (fX.refl σ).xu 45 k _ (by decide) (fun h9 => absurd h9 (by decide))
    rw [fX1_hasEarlierWay_c18_s, a5, if_neg (nI_ge (by omega) (by omega)), xs_n (by omega) (by decide), xl_t, nI_1]
    obtain ⟨σ', g1, g2, g3⟩ := ih (k + 1) n (xu σ 45 k (nI k)) (by omega) (by omega) (h.scr f1) (hb.frame (by rw [xu_ne _ _ _ (by decide)]) (xu_ne _ _ _ (by decide))) (fun j h9 => by
      rw [xu_at]
      by_cases e : j = k
      · rw [e, upd_at]
      · rw [upd_ne _ _ e]; exact hj j (by omega))
    exact ⟨σ', g1, g2, f1.trans g3⟩
theorem X_noEarlier {N : Nat} {σ : xSt} {H : List sS} {s : sS} {tx : (Nat → Int32) × Nat} (h : RX σ (H, s, tx)) (hI : Inv N s) : ∃ σ', fX1_hasEarlierWay σ = some (0, σ') ∧ RX σ' (H, s, tx) ∧ fX σ σ' := by
  have h7 := hI.caps.2.2.1
  have e7 : s 7 = nI (cS s) := hI.caps.2.2.2.2.2.2.2.1
  have a5 : σ 38 5 = nI (cS s) := (X_at_nshop h).trans e7
  unfold fX1_hasEarlierWay
  by_cases c : σ 38 5 ≤ 5
  · rw [if_pos c]
    obtain ⟨σ1, e1, e2, e3, e4⟩ := X_findWay h hI (mi := 0) ⟨by decide, by decide⟩
    have e3 : wB s σ1 (bestW s 0) := e3
    have e1 : fX1_findWay 0 σ = some (match bestW s 0 with | none => 0 | some _ => 1, σ1) := e1
    obtain ⟨σ2, g1, g2, g3⟩ := X_earlyInit (tx := tx) (H := H) hI (cS s) 0 xFU σ1 (Nat.zero_add _) (by show cS s < 8192; omega) e2 e3 (fun j hj => absurd hj (Nat.not_lt_zero j))
    rw [e1, xc2_t]
    exact ⟨σ2, g1, g2, e4.trans g3⟩
  · rw [if_neg c]
    exact ⟨σ, rfl, h, fX.refl σ⟩
