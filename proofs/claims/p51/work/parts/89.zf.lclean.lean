/-! isClean: what the class answers of rows -/
theorem set_in {N : Nat} {s : sS} (hI : Inv N s) {V : Nat} (hV : V < 2 ^ cR s) : (0 ≤ nI V ∧ nI V ≤ ((1 : Int32) <<< ((s 5) &&& 31)) - 1) ∧ V < 64 ∧ ∀ a, a < 6 → bV V a = true → a < cR s := by
  have h6 := hI.caps.1
  have e5 : s 5 = nI (cR s) := hI.caps.2.2.2.2.2.1
  obtain ⟨c1, c2, c3, c4⟩ := cV_full (cR s) (by omega)
  obtain ⟨d1, d2⟩ := set_lt (cR s) (by omega)
  rw [e5, c3]
  exact ⟨⟨nI_pos' (by omega), nI_le (by omega) (by omega)⟩, by omega, d2 V hV⟩
theorem X_cleaningV {N : Nat} {σ : xSt} {H : List sS} {s : sS} {tx : (Nat → Int32) × Nat} (h : RX σ (H, s, tx)) (hI : Inv N s) {V : Nat} (hV : V < 2 ^ cR s) {e : Nat} {p : List Nat} (hb : bestR s V = some ((e : Int), p)) : XR (fX11_cleaning (nI V) σ) (.inl (nI e), (H, s, tx)) := by
  obtain ⟨g, hV6, hVR⟩ := set_in hI hV
  have a5 : σ 4 7 = s 5 := X_at_nrec h
  unfold fX11_cleaning fX11_isSetOfRecipes
  rw [a5, X_isWithin, xc2_t, xb_t x10b, xc2_t, if_pos g, X_needArgument1, xct_l]
  obtain ⟨σ1, x1, x2, x3, x4⟩ := X_find h hI hV6 hVR
  rw [x1, xc_t]
  rw [hb] at x3
  have e1 : σ1 46 3 = nI e := nI_ofZ (z := (e : Int)) x3.1 x3.2.1
  exact ⟨σ1, by rw [e1], x2⟩
theorem X_rowAtV {N : Nat} {σ : xSt} {H : List sS} {s : sS} {tx : (Nat → Int32) × Nat} (h : RX σ (H, s, tx)) (hI : Inv N s) {V : Nat} (hV : V < 2 ^ cR s) {e : Int} {p : List Nat} (hb : bestR s V = some (e, p)) {k : Nat} (hk : k < (remS V).length) : XR (fX11_rowAt (nI V) (nI k) σ) (.inl (nI (gl p k)), (H, s, tx)) := by
  obtain ⟨g, hV6, hVR⟩ := set_in hI hV
  have a5 : σ 4 7 = s 5 := X_at_nrec h
  have hl := (remS_len V hV6).1
  have c : 0 ≤ nI k ∧ nI k ≤ nI (remS V).length - 1 := x_cntI rfl (by omega) hk
  unfold fX11_rowAt fX11_isSetOfRecipes
  rw [a5, X_isWithin, xc2_t, xb_t x10b, xc2_t, if_pos g, X_needArgument1, xct_l, X_bitCount hV6, xc2_t, X_isWithin, xc2_t, if_pos c, X_needIndex1, xct_l]
  obtain ⟨σ1, x1, x2, x3, x4⟩ := X_find h hI hV6 hVR
  rw [hb] at x3
  have k1 := x3.2.2.2.2 k hk
  rw [x1, xc_t, xr_n (by omega) (by decide), k1.2]
  exact ⟨σ1, rfl, x2⟩
theorem bs_is {run : List Nat → Option Int} : ∀ (L : List (List Nat)) (b : Option (Int × List Nat)) (e : Int) (p : List Nat), bs run [] b L = some (e, p) → b = some (e, p) ∨ (p ∈ L ∧ run p = some e)
  | [], _, _, _, h => Or.inl h
  | c :: t, b, e, p, h => by
    have h : bs run [] (stB b (run c) ([] ++ c)) t = some (e, p) := h
    rcases bs_is t _ e p h with h9 | h9
    · cases hr : run c with
      | none =>
        rw [hr] at h9
        exact Or.inl h9
      | some e1 =>
        rw [hr] at h9
        cases b with
        | none =>
          have h9 : some (e1, [] ++ c) = some (e, p) := h9
          cases h9
          exact Or.inr ⟨List.mem_cons_self, hr⟩
        | some b =>
          obtain ⟨e0, w0⟩ := b
          have h9 : (if e1 < e0 then some (e1, [] ++ c) else some (e0, w0)) = some (e, p) := h9
          by_cases g : e1 < e0
          · rw [if_pos g] at h9
            cases h9
            exact Or.inr ⟨List.mem_cons_self, hr⟩
          · rw [if_neg g] at h9
            exact Or.inl h9
    · exact Or.inr ⟨List.mem_cons_of_mem _ h9.1, h9.2⟩
/-- the least price of a set's rows behind f -/
def lsP (s : sS) (f V v : Nat) : Prop := (∃ c, c ∈ prm (remS V).length (remS V) ∧ runP s f 0 c = some (v : Int)) ∧ ∀ c, c ∈ prm (remS V).length (remS V) → ∀ z, runP s f 0 c = some z → (v : Int) ≤ z
theorem runP_add (s : sS) (t : Int) : ∀ (c : List Nat) (f : Nat) (m z : Int), runP s f m c = some z → runP s f (m + t) c = some (z + t)
  | [], _, m, z, h => by
    have h : some m = some z := h
    cases h
    rfl
  | a :: c, f, m, z, h => by
    have h : runP s a (m + pc s f a) c = some z := h
    have := runP_add s t c a _ z h
    show runP s a (m + t + pc s f a) c = some (z + t)
    rw [show m + t + pc s f a = m + pc s f a + t by omega]
    exact this
theorem prm_cons {m : Nat} {r c : List Nat} (h : c ∈ prm (m + 1) r) : ∃ x d, c = x :: d ∧ x ∈ r ∧ d ∈ prm m (r.filter (fun y => y != x)) := by
  have h : c ∈ r.flatMap fun x => (prm m (r.filter (fun y => y != x))).map (fun c => x :: c) := h
  obtain ⟨x, hx, h2⟩ := List.mem_flatMap.mp h
  obtain ⟨d, hd, e⟩ := List.mem_map.mp h2
  exact ⟨x, d, e.symm, hx, hd⟩
theorem cons_prm {m : Nat} {r d : List Nat} {x : Nat} (hx : x ∈ r) (hd : d ∈ prm m (r.filter (fun y => y != x))) : x :: d ∈ prm (m + 1) r := by
  show x :: d ∈ r.flatMap fun x => (prm m (r.filter (fun y => y != x))).map (fun c => x :: c)
  exact List.mem_flatMap.mpr ⟨x, hx, List.mem_map.mpr ⟨d, hd, rfl⟩⟩
theorem bestR_lsP {s : sS} {V : Nat} (hV : V < 64) {e : Int} {p : List Nat} (hb : bestR s V = some (e, p)) {v : Nat} (hv : lsP s 7 V v) : e = (v : Int) ∧ p ∈ prm (remS V).length (remS V) ∧ runP s 7 0 p = some e := by
  unfold bestR at hb
  rcases bs_is _ _ _ _ hb with h9 | h9
  · exact nomatch h9
  · refine ⟨?_, h9.1, h9.2⟩
    obtain ⟨c, c1, c2⟩ := hv.1
    obtain ⟨e1, w1, h1, h2⟩ := bs_min (run := runP s 7 0) (pre := []) c2 (prm (remS V).length (remS V)) none c1
    rw [hb] at h1
    cases h1
    have := hv.2 p h9.1 e h9.2
    omega
/-! what the law reckons between two recipes -/
theorem mN_bit : ∀ A, A < 16 → ∀ B, B < 16 → ∀ k, k < 4 → bV (mN A B) k = (bV A k && !bV B k) := by decide +kernel
theorem P_price {σ : xSt} {i j A B : Nat} (hi : i < 4) (hj : j < 4) (e1 : σ 57 i = nI A) (e2 : σ 57 j = nI B) (hA : A < 16) (hB : B < 16) : fL_price (nI i) (nI j) σ = some (nI (cln (mN A B)), σ) := by
  have loop : ∀ (d k n : Nat), k + d = 4 → d < n → fL_price_c5 n (nI i) (nI j) (nI (clP (mN A B) k)) (nI k) σ = some (nI (clP (mN A B) 4), σ) := by
    intro d
    induction d with
    | zero =>
      intro k n hk hn
      match n, hn with
      | n + 1, _ =>
        obtain rfl : k = 4 := by omega
        rw [fL_price_c5_s, if_pos (by decide)]
    | succ d ih =>
      intro k n hk hn
      match n, hn with
      | n + 1, hn =>
        have ih := ih (k + 1) n (by omega) (by omega)
        have bA := bit6 A (by omega) k (by omega)
        have bB := bit6 B (by omega) k (by omega)
        have bM := mN_bit A hA B hB k (by omega)
        have ec : clP (mN A B) (k + 1) = clP (mN A B) k + (if bV (mN A B) k then ([3, 5, 2, 4] : List Nat).getD k 0 else 0) := rfl
        rw [fL_price_c5_s, if_neg (show ¬ (4 : Int32) ≤ nI k from nI_ge (b := 4) (by omega) (by decide)), xr_n hi (by decide), e1]
        cases hA1 : bV A k with
        | true =>
          rw [if_pos (bA.2.1.mpr hA1), xr_n hj (by decide), e2]
          cases hB1 : bV B k with
          | true =>
            have eM : bV (mN A B) k = false := by rw [bM, hA1, hB1]; rfl
            rw [eM] at ec
            have ec : clP (mN A B) (k + 1) = clP (mN A B) k := ec
            have n0 : ¬ (((nI B) >>> ((nI k) &&& 31)) &&& 1) = 0 := fun h9 => by
              have := bB.1.mp h9
              rw [hB1] at this
              exact nomatch this
            rw [if_neg n0, xl_t, ← nI_succ]
            rw [ec] at ih
            exact ih
          | false =>
            have eM : bV (mN A B) k = true := by rw [bM, hA1, hB1]; rfl
            rw [eM] at ec
            have ec : clP (mN A B) (k + 1) = clP (mN A B) k + ([3, 5, 2, 4] : List Nat).getD k 0 := ec
            rw [if_pos (bB.1.mpr hB1), xrs_n (by omega) (by decide), pri_fin k (by omega), xl_t, nI_add, xl_t, ← nI_succ]
            rw [ec] at ih
            exact ih
        | false =>
          have eM : bV (mN A B) k = false := by rw [bM, hA1]; rfl
          rw [eM] at ec
          have ec : clP (mN A B) (k + 1) = clP (mN A B) k := ec
          have n0 : ¬ (((nI A) >>> ((nI k) &&& 31)) &&& 1) = 1 := fun h9 => by
            have := bA.2.1.mp h9
            rw [hA1] at this
            exact nomatch this
          rw [if_neg n0, xl_t, ← nI_succ]
          rw [ec] at ih
          exact ih
  unfold fL_price
  rw [← (cln_fin _ (mN_fin A hA B hB).2).2.2]
  exact loop 4 0 xFU rfl (by have h9 : xFU = 8192 := rfl; omega)
/-- the price, as the class has it -/
theorem P_priceR {R : Nat} {σ : xSt} {s : sS} (w : LW R σ s) {i j : Nat} (hi : i < R) (hj : j < R) : ∃ z : Nat, z ≤ 14 ∧ pc s i j = (z : Int) ∧ fL_price (nI i) (nI j) σ = some (nI z, σ) := by
  have hR := w.2.1
  obtain ⟨lo, hi', al1, ww, pp, pv, ⟨c1, c2, c3, c4⟩, ⟨f1, f2, f3, f4, f5, f6, f7⟩, q1, q2, q3, q4, q5, q6⟩ := w.2.2 i hi
  obtain ⟨lo2, hi2, al2, ww2, pp2, pv2, ⟨c12, c22, c32, c42⟩, ⟨f12, f22, f32, f42, f52, f62, f72⟩, q12, q22, q32, q42, q52, q62⟩ := w.2.2 j hj
  have a1 : al s i = al1 := by
    unfold al
    rw [f5]
    exact nI_clamp (show al1 < 2 ^ 31 by omega)
  have a2 : al s j = al2 := by
    unfold al
    rw [f52]
    exact nI_clamp (show al2 < 2 ^ 31 by omega)
  refine ⟨cln (mN al1 al2), (cln_fin _ (mN_fin al1 q4 al2 q42).2).2.1, ?_, P_price (by omega) (by omega) c3 c32 q4 q42⟩
  unfold pc
  rw [if_neg (by omega), a1, a2]
