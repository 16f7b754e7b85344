/-! ===== THE CART'S WAY: the class ===== -/
def ab (d : Int) : Int := if 0 ≤ d then d else -d
def sx (s : sS) (a : Nat) : Int := (s (625 + a)).toInt
def sy (s : sS) (a : Nat) : Int := (s (632 + a)).toInt
def sOp (s : sS) (a : Nat) : Int := (s (639 + a)).toInt
def sCl (s : sS) (a : Nat) : Int := (s (646 + a)).toInt
def sSt (s : sS) (a : Nat) : Int := (s (653 + a)).toInt
theorem shop_b {N : Nat} {s : sS} (h : Inv N s) {a : Nat} (ha : a < cS s) : (0 ≤ sx s a ∧ sx s a ≤ 20) ∧ (0 ≤ sy s a ∧ sy s a ≤ 20) ∧ 0 ≤ sOp s a ∧ sOp s a ≤ sCl s a ∧ sCl s a ≤ 600 ∧ 0 ≤ sSt s a ∧ sSt s a ≤ 30 := by
  obtain ⟨h1, h2, h3, h4, h5⟩ := h.shop a ha
  exact ⟨h1, h2, h3.1, h4.1, h4.2, h5.1, h5.2⟩
def leav (s : sS) (a : Nat) (x y m : Int) : Option Int := if m + (ab (x - sx s a) + ab (y - sy s a)) ≤ sCl s a then some ((if m + (ab (x - sx s a) + ab (y - sy s a)) < sOp s a then sOp s a else m + (ab (x - sx s a) + ab (y - sy s a))) + sSt s a) else none
def runF (s : sS) : Int → Int → Int → List Nat → Option Int
  | x, y, m, [] => some (m + (x + y))
  | x, y, m, a :: l => match leav s a x y m with
    | none => none
    | some m' => runF s (sx s a) (sy s a) m' l
theorem ab_nn (d : Int) : 0 ≤ ab d := by unfold ab; split <;> omega
theorem ab_ge (d : Int) : d ≤ ab d ∧ -d ≤ ab d := by unfold ab; split <;> omega
theorem ab_le {d : Int} {B : Int} (h1 : -B ≤ d) (h2 : d ≤ B) : ab d ≤ B := by unfold ab; split <;> omega
theorem leav_b {N : Nat} {s : sS} (h : Inv N s) {a : Nat} (ha : a < cS s) {x y m m' : Int} (hm : 0 ≤ m) (he : leav s a x y m = some m') : 0 ≤ m' ∧ m' ≤ 630 ∧ m + (ab (x - sx s a) + ab (y - sy s a)) ≤ m' := by
  have b := shop_b h ha
  have h1 := ab_nn (x - sx s a)
  have h2 := ab_nn (y - sy s a)
  unfold leav at he
  split at he
  · cases he
    split <;> omega
  · exact nomatch he
theorem run_ge {N : Nat} {s : sS} (h : Inv N s) : ∀ (l : List Nat) (x y m e : Int), (∀ a, a ∈ l → a < cS s) → 0 ≤ m → runF s x y m l = some e → m + (x + y) ≤ e
  | [], x, y, m, e, _, _, he => by
    have he : some (m + (x + y)) = some e := he
    cases he
    omega
  | a :: l, x, y, m, e, hl, hm, he => by
    have he : (match leav s a x y m with | none => none | some m' => runF s (sx s a) (sy s a) m' l) = some e := he
    cases hv : leav s a x y m with
    | none => rw [hv] at he; exact nomatch he
    | some m' =>
      rw [hv] at he
      have b := leav_b h (hl a List.mem_cons_self) hm hv
      have g := run_ge h l (sx s a) (sy s a) m' e (fun c hc => hl c (List.mem_cons_of_mem _ hc)) b.1 he
      have a1 := ab_ge (x - sx s a)
      have a2 := ab_ge (y - sy s a)
      omega
theorem x_abs {u : Int32} (h1 : -1000 ≤ u.toInt) (h2 : u.toInt ≤ 1000) : (if 0 ≤ u then u else 0 - u).toInt = ab u.toInt := by
  unfold ab
  by_cases c : 0 ≤ u.toInt
  · rw [if_pos c, if_pos (show (0 : Int32) ≤ u from (fa_le _ _).mpr c)]
  · rw [if_neg c, if_neg (show ¬ (0 : Int32) ≤ u from fun h9 => c ((fa_le _ _).mp h9)), i32_sub (by show _ ≤ (0 : Int) - _; omega) (by show (0 : Int) - _ < _; omega)]
    show (0 : Int) - _ = _
    omega
/-- a place of the way: where it is -/
def fco (σ : xSt) (f : Nat) (x y : Int) : Prop := f < 8 ∧ (σ 39 f).toInt = x ∧ (σ 40 f).toInt = y ∧ (0 ≤ x ∧ x ≤ 20) ∧ (0 ≤ y ∧ y ≤ 20)
theorem fco.frame {σ σ' : xSt} {f : Nat} {x y : Int} (h : fco σ f x y) (e : fX σ σ') : fco σ' f x y := by
  unfold fco at h ⊢
  rw [e.1 39 (by decide), e.1 40 (by decide)]
  exact h
theorem fco_shop {N : Nat} {σ : xSt} {H : List sS} {s : sS} {tx : (Nat → Int32) × Nat} (h : RX σ (H, s, tx)) (hI : Inv N s) {a : Nat} (ha : a < cS s) : fco σ a (sx s a) (sy s a) := by
  have b := shop_b hI ha
  have h7 := hI.caps.2.2.1
  have e1 : σ 39 a = s (625 + a) := h.2.1.2.2.2.2.2.2.2.1 a ha
  have e2 : σ 40 a = s (632 + a) := h.2.1.2.2.2.2.2.2.2.2.1 a ha
  exact ⟨by omega, by rw [e1]; rfl, by rw [e2]; rfl, b.1, b.2.1⟩
theorem fco_home {σ : xSt} {a : xA} (h : RX σ a) : fco σ 7 0 0 := by
  have e := h.2.2.2.1
  exact ⟨by decide, by rw [e.1]; rfl, by rw [e.2]; rfl, by decide, by decide⟩
theorem X_minutes {σ : xSt} {i j : Nat} {x0 y0 x1 y1 : Int} (h0 : fco σ i x0 y0) (h1 : fco σ j x1 y1) : ∃ r, fX1_minutesBetween (nI i) (nI j) σ = some (r, σ) ∧ r.toInt = ab (x0 - x1) + ab (y0 - y1) := by
  obtain ⟨a1, a2, a3, a4, a5⟩ := h0
  obtain ⟨b1, b2, b3, b4, b5⟩ := h1
  unfold fX1_minutesBetween
  rw [xr_n (by omega) (by decide), xr_n (by omega) (by decide), xl_t, xl_t, xr_n (by omega) (by decide), xr_n (by omega) (by decide), xl_t, xl_t]
  have t1 : (σ 39 i - σ 39 j).toInt = x0 - x1 := by rw [i32_sub (by rw [a2, b2]; omega) (by rw [a2, b2]; omega), a2, b2]
  have t2 : (σ 40 i - σ 40 j).toInt = y0 - y1 := by rw [i32_sub (by rw [a3, b3]; omega) (by rw [a3, b3]; omega), a3, b3]
  have u1 := x_abs (u := σ 39 i - σ 39 j) (by omega) (by omega)
  have u2 := x_abs (u := σ 40 i - σ 40 j) (by omega) (by omega)
  rw [t1] at u1
  rw [t2] at u2
  have v1 := ab_nn (x0 - x1)
  have v2 := ab_nn (y0 - y1)
  have v3 := ab_le (d := x0 - x1) (B := 20) (by omega) (by omega)
  have v4 := ab_le (d := y0 - y1) (B := 20) (by omega) (by omega)
  exact ⟨_, rfl, by rw [i32_add (by rw [u1, u2]; omega) (by rw [u1, u2]; omega), u1, u2]⟩
theorem X_leaves {N : Nat} {σ : xSt} {H : List sS} {s : sS} {tx : (Nat → Int32) × Nat} (h : RX σ (H, s, tx)) (hI : Inv N s) {a f : Nat} (ha : a < cS s) {x y : Int} (hf : fco σ f x y) {m : Int32} (hm : bt m 0 700) : (leav s a x y m.toInt = none → fX1_leaves (nI a) (nI f) m σ = some (-1, σ)) ∧ (∀ m', leav s a x y m.toInt = some m' → ∃ r, fX1_leaves (nI a) (nI f) m σ = some (r, σ) ∧ r.toInt = m') := by
  have h7 := hI.caps.2.2.1
  have b := shop_b hI ha
  have hs := fco_shop h hI ha
  unfold bt at hm
  obtain ⟨r, e1, e2⟩ := X_minutes hf hs
  obtain ⟨-, -, -, f4, f5⟩ := hf
  have v1 := ab_nn (x - sx s a)
  have v2 := ab_nn (y - sy s a)
  have v3 := ab_le (d := x - sx s a) (B := 20) (by omega) (by omega)
  have v4 := ab_le (d := y - sy s a) (B := 20) (by omega) (by omega)
  have c42 : σ 42 a = s (646 + a) := h.2.1.2.2.2.2.2.2.2.2.2.2.1 a ha
  have c41 : σ 41 a = s (639 + a) := h.2.1.2.2.2.2.2.2.2.2.2.1 a ha
  have c43 : σ 43 a = s (653 + a) := h.2.1.2.2.2.2.2.2.2.2.2.2.2.1 a ha
  have t : (m + r).toInt = m.toInt + (ab (x - sx s a) + ab (y - sy s a)) := by rw [i32_add (by rw [e2]; omega) (by rw [e2]; omega), e2]
  unfold fX1_leaves leav
  rw [e1, xc2_t, xl_t, xr_n (by omega) (by decide), c42]
  by_cases c : m.toInt + (ab (x - sx s a) + ab (y - sy s a)) ≤ sCl s a
  · rw [if_pos c, if_pos (show m + r ≤ s (646 + a) from (fa_le _ _).mpr (by rw [t]; exact c)), xr_n (by omega) (by decide), c41, xl_t, xr_n (by omega) (by decide), c43]
    refine ⟨fun h9 => (nomatch h9), fun m' h9 => ?_⟩
    cases h9
    refine ⟨_, rfl, ?_⟩
    have t2 : (if m + r < s (639 + a) then s (639 + a) else m + r).toInt = if m.toInt + (ab (x - sx s a) + ab (y - sy s a)) < sOp s a then sOp s a else m.toInt + (ab (x - sx s a) + ab (y - sy s a)) := by
      by_cases c2 : m.toInt + (ab (x - sx s a) + ab (y - sy s a)) < sOp s a
      · rw [if_pos c2, if_pos (show m + r < s (639 + a) from (fa_lt _ _).mpr (by rw [t]; exact c2))]; rfl
      · rw [if_neg c2, if_neg (show ¬ m + r < s (639 + a) from fun h9 => by rw [fa_lt, t] at h9; exact c2 h9)]; exact t
    have t3 : (if m + r < s (639 + a) then s (639 + a) else m + r).toInt ≤ 600 ∧ 0 ≤ (if m + r < s (639 + a) then s (639 + a) else m + r).toInt := by
      rw [t2]; split <;> omega
    rw [i32_add (by show _ ≤ _ + sSt s a; omega) (by show _ + sSt s a < _; omega), t2]; rfl
  · rw [if_neg c, if_neg (show ¬ m + r ≤ s (646 + a) from fun h9 => by rw [fa_le, t] at h9; exact c h9)]
    exact ⟨fun _ => rfl, fun m' h9 => nomatch h9⟩
def wB (s : sS) (σ : xSt) : Option (Int × List Nat) → Prop
  | none => σ 38 7 = -1
  | some (e, p) => (σ 38 7).toInt = e ∧ 0 ≤ e ∧ e ≤ 2000 ∧ p.length = cS s ∧ ∀ k, k < cS s → gl p k < 8 ∧ σ 44 k = nI (gl p k)
theorem wB.frame {s : sS} {σ σ' : xSt} {b : Option (Int × List Nat)} (h : wB s σ b) (h1 : σ' 38 7 = σ 38 7) (h2 : σ' 44 = σ 44) : wB s σ' b := by
  cases b with
  | none => show σ' 38 7 = -1; rw [h1]; exact h
  | some b =>
    obtain ⟨e, p⟩ := b
    show (σ' 38 7).toInt = e ∧ 0 ≤ e ∧ e ≤ 2000 ∧ p.length = cS s ∧ ∀ k, k < cS s → gl p k < 8 ∧ σ' 44 k = nI (gl p k)
    rw [h1, h2]
    exact h
def lastS (w : List Nat) : Nat := if w.length = 0 then 7 else gl w (w.length - 1)
theorem gl_app (w : List Nat) (a k : Nat) : gl (w ++ [a]) k = if k < w.length then gl w k else if k = w.length then a else 0 := by
  unfold gl
  rw [List.getD_eq_getElem?_getD, List.getD_eq_getElem?_getD]
  by_cases c : k < w.length
  · rw [if_pos c, List.getElem?_append_left c]
  · rw [if_neg c, List.getElem?_append_right (by omega)]
    by_cases c2 : k = w.length
    · rw [if_pos c2, c2, Nat.sub_self]; rfl
    · rw [if_neg c2, List.getElem?_eq_none (by rw [List.length_singleton]; omega)]; rfl
theorem lastS_app (w : List Nat) (a : Nat) : lastS (w ++ [a]) = a := by
  unfold lastS
  rw [List.length_append, List.length_singleton, if_neg (by omega), show w.length + 1 - 1 = w.length by omega, gl_app, if_neg (by omega), if_pos rfl]
theorem rg_mem : ∀ (k j a : Nat), a ∈ rg j k ↔ j ≤ a ∧ a < j + k
  | 0, j, a => ⟨fun h => by exact absurd h List.not_mem_nil, fun h => by omega⟩
  | k + 1, j, a => by
    show a ∈ j :: rg (j + 1) k ↔ _
    rw [List.mem_cons, rg_mem k (j + 1) a]
    omega
theorem rem_mem {V n a : Nat} : a ∈ rem_ V n ↔ a < n ∧ bV V a = false := by
  unfold rem_
  rw [List.mem_filter, rg_mem]
  constructor
  · intro ⟨h1, h2⟩
    refine ⟨by omega, ?_⟩
    cases h : bV V a with
    | false => rfl
    | true => rw [h] at h2; exact absurd h2 (by decide)
  · intro ⟨h1, h2⟩
    exact ⟨by omega, by rw [h2]; rfl⟩
theorem prm_mem : ∀ (m : Nat) (r c : List Nat), c ∈ prm m r → ∀ a, a ∈ c → a ∈ r
  | 0, r, c, hc, a, ha => by
    rw [List.mem_singleton.mp hc] at ha
    exact absurd ha List.not_mem_nil
  | m + 1, r, c, hc, a, ha => by
    obtain ⟨x, hx, hc⟩ := List.mem_flatMap.mp hc
    obtain ⟨c', hc', rfl⟩ := List.mem_map.mp hc
    rcases List.mem_cons.mp ha with e | h
    · rw [e]; exact hx
    · exact (List.mem_filter.mp (prm_mem m _ c' hc' a h)).1
def ext (m : Nat) (R L : List Nat) : List (List Nat) := L.flatMap fun x => (prm m (R.filter (fun y => y != x))).map (fun c => x :: c)
/-- the loop over the shops that may be next -/
theorem X_shops {N : Nat} {H : List sS} {s : sS} {tx : (Nat → Int32) × Nat} (hI : Inv N s) {fr : Int32 → Int32 → Int32 → xSt → Option xSt} {w : List Nat} {m : Nat} {V : Nat} {mi : Int32} {x y : Int} (hw : w.length + (m + 1) = cS s) (hV : V < 128) (hm : bt mi 0 700) (IH : ∀ (a : Nat) (mi' : Int32) (σ : xSt) (b : Option (Int × List Nat)), a < cS s → bV V a = false → (∀ k, k < (w ++ [a]).length → gl (w ++ [a]) k < 8 ∧ σ 45 k = nI (gl (w ++ [a]) k)) → RX σ (H, s, tx) → fco σ a (sx s a) (sy s a) → bt mi' 0 700 → wB s σ b → ∃ σ', fr (nI (w.length + 1)) (nI (oV V a)) mi' σ = some σ' ∧ RX σ' (H, s, tx) ∧ wB s σ' (bs (runF s (sx s a) (sy s a) mi'.toInt) (w ++ [a]) b (prm m (rem_ (oV V a) (cS s)))) ∧ (∀ k, k < w.length + 1 → σ' 45 k = σ 45 k) ∧ fX σ σ') : ∀ (d j n : Nat) (σ : xSt) (b : Option (Int × List Nat)), j + d = cS s → d < n → (∀ k, k < w.length → gl w k < 8 ∧ σ 45 k = nI (gl w k)) → RX σ (H, s, tx) → fco σ (lastS w) x y → wB s σ b → ∃ σ', fX1_goOn_c111 fr n (nI w.length) (nI V) mi (nI (lastS w)) (nI j) σ = some σ' ∧ RX σ' (H, s, tx) ∧ wB s σ' (bs (runF s x y mi.toInt) w b (ext m (rem_ V (cS s)) ((rg j d).filter (fun a => !bV V a)))) ∧ (∀ k, k < w.length → σ' 45 k = σ 45 k) ∧ fX σ σ' := by
  have h7 := hI.caps.2.2.1
  have e7 : s 7 = nI (cS s) := hI.caps.2.2.2.2.2.2.2.1
  intro d
  induction d with
  | zero =>
    intro j n σ b hj hn hk h hf hb
    obtain ⟨n, rfl⟩ : ∃ z, n = z + 1 := ⟨n - 1, by omega⟩
    have a5 : σ 38 5 = nI (cS s) := (X_at_nshop h).trans e7
    rw [fX1_goOn_c111_s, a5, if_pos (nI_le (by omega) (by omega))]
    exact ⟨σ, rfl, h, hb, fun _ _ => rfl, fX.refl σ⟩
  | succ d ih =>
    intro j n σ b hj hn hk h hf hb
    obtain ⟨n, rfl⟩ : ∃ z, n = z + 1 := ⟨n - 1, by omega⟩
    have a5 : σ 38 5 = nI (cS s) := (X_at_nshop h).trans e7
    have bt7 := bit7 V hV j (by omega)
    have hj4 : j < cS s := by omega
    rw [fX1_goOn_c111_s, a5, if_neg (nI_ge hj4 (by omega))]
    have e1 : ∀ c : Bool, bV V j = c → (rg j (d + 1)).filter (fun a => !bV V a) = if c = true then (rg (j + 1) d).filter (fun a => !bV V a) else j :: (rg (j + 1) d).filter (fun a => !bV V a) := fun c hc => by
      show (j :: rg (j + 1) d).filter (fun a => !bV V a) = _
      rw [List.filter_cons, hc]
      cases c <;> rfl
    cases hc : bV V j with
    | true =>
      rw [if_neg (show ¬ ((nI V >>> (nI j &&& 31)) &&& 1) = 0 from fun h9 => by rw [bt7.1, hc] at h9; exact absurd h9 (by decide)), e1 true hc, if_pos rfl]
      unfold fX1_goOn_c142
      rw [if_pos rfl, xl_t, nI_1]
      exact ih (j + 1) n σ b (by omega) (by omega) hk h hf hb
    | false =>
      rw [if_pos (bt7.1.mpr hc), e1 false hc, if_neg (show ¬ false = true by decide)]
      have e2 : ext m (rem_ V (cS s)) (j :: (rg (j + 1) d).filter (fun a => !bV V a)) = (prm m ((rem_ V (cS s)).filter (fun y => y != j))).map (fun c => j :: c) ++ ext m (rem_ V (cS s)) ((rg (j + 1) d).filter (fun a => !bV V a)) := rfl
      rw [e2, bs_append, bs_map]
      have lv := X_leaves h hI hj4 hf hm
      unfold fX1_goOn_c142
      cases hl : leav s j x y mi.toInt with
      | none =>
        rw [lv.1 hl, xc2_t, if_pos rfl, xl_t, nI_1, bs_none _ b (fun c _ => by show (match leav s j x y mi.toInt with | none => none | some m' => runF s (sx s j) (sy s j) m' c) = none; rw [hl])]
        exact ih (j + 1) n σ b (by omega) (by omega) hk h hf hb
      | some m' =>
        obtain ⟨r, r1, r2⟩ := lv.2 m' hl
        have lb := leav_b hI hj4 hm.1 hl
        rw [r1, xc2_t, if_neg (show ¬ r = -1 from fun h9 => by rw [h9] at r2; have r2 : (-1 : Int) = m' := r2; omega), xs_n (by omega) (by decide), nI_1, bt7.2.1]
        have f1 : fX σ (xu σ 45 w.length (nI j)) := (fX.refl σ).xu 45 _ _ (by decide) (fun h9 => absurd h9 (by decide))
        obtain ⟨σ1, g1, g2, g3, g4, g5⟩ := IH j r (xu σ 45 w.length (nI j)) b hj4 hc (fun k hk2 => by
          rw [List.length_append, List.length_singleton] at hk2
          rw [gl_app, xu_at]
          by_cases e : k = w.length
          · rw [if_neg (by omega), if_pos e, e, upd_at]; exact ⟨by omega, rfl⟩
          · rw [if_pos (by omega), upd_ne _ _ e]; exact hk k (by omega)) (h.scr f1) (fco_shop (h.scr f1) hI hj4) ⟨by rw [r2]; exact lb.1, by rw [r2]; omega⟩ (hb.frame (by rw [xu_ne _ _ _ (by decide)]) (xu_ne _ _ _ (by decide)))
        have k45 : ∀ k, k < w.length → σ1 45 k = σ 45 k := fun k hk2 => by rw [g4 k (by omega), xu_at, upd_ne _ _ (by omega)]
        rw [g1, xc_t, xl_t, nI_1]
        obtain ⟨σ2, q1, q2, q3, q4, q5⟩ := ih (j + 1) n σ1 _ (by omega) (by omega) (fun k hk2 => by rw [k45 k hk2]; exact hk k hk2) g2 ((hf.frame f1).frame g5) g3
        refine ⟨σ2, q1, q2, ?_, fun k hk2 => (q4 k hk2).trans (k45 k hk2), (f1.trans g5).trans q5⟩
        rw [(rem_fin (cS s) (by omega) V hV j hj4 hc).1]
        rw [r2] at q3
        rw [bs_congr (run := fun c => runF s x y mi.toInt (j :: c)) (run' := runF s (sx s j) (sy s j) m') _ b (fun c _ => by show (match leav s j x y mi.toInt with | none => none | some m' => runF s (sx s j) (sy s j) m' c) = _; rw [hl])]
        exact q3
theorem X_goHead {σ : xSt} {w : List Nat} (h7 : w.length ≤ 7) (hk : ∀ k, k < w.length → gl w k < 8 ∧ σ 45 k = nI (gl w k)) (d : Nat) (V mi : Int32) : fX1_goOn (d + 1) (nI w.length) V mi σ = fX1_goOn_c23 (fX1_goOn d) (nI w.length) V mi (nI (lastS w)) σ := by
  rw [fX1_goOn_s]
  unfold lastS
  by_cases c : w.length = 0
  · rw [if_pos (show nI w.length ≤ 0 by rw [c]; decide), if_pos c]
    rfl
  · rw [if_neg (show ¬ nI w.length ≤ 0 from nI_ge (a := 0) (b := w.length) (by omega) (by omega)), if_neg (show ¬ 7 < nI w.length from fun h9 => by rw [fa_lt, nI_toInt (by omega)] at h9; have h9 : (7 : Int) < _ := h9; omega), if_neg c, show nI w.length - 1 = nI (w.length - 1) from by
      obtain ⟨z, hz⟩ : ∃ z, w.length = z + 1 := ⟨w.length - 1, by omega⟩
      rw [hz]; exact nI_pred z, xr_n (by omega) (by decide), (hk (w.length - 1) (by omega)).2]
theorem X_goMid {s : sS} {σ : xSt} {a : xA} (h : RX σ a) {f : Nat} {x y : Int} (hf : fco σ f x y) {mi : Int32} (hm : bt mi 0 700) {b : Option (Int × List Nat)} (hb : wB s σ b) (fr : Int32 → Int32 → Int32 → xSt → Option xSt) (a1 a2 : Int32) : ∃ bk, bk.toInt = mi.toInt + (x + y) ∧ ((∀ e0 w0, b = some (e0, w0) → mi.toInt + (x + y) < e0) → fX1_goOn_c23 fr a1 a2 mi (nI f) σ = fX1_goOn_c59 fr a1 a2 mi (nI f) bk 1 σ) ∧ ((∃ e0 w0, b = some (e0, w0) ∧ ¬ mi.toInt + (x + y) < e0) → fX1_goOn_c23 fr a1 a2 mi (nI f) σ = fX1_goOn_c59 fr a1 a2 mi (nI f) bk 0 σ) := by
  obtain ⟨r, e1, e2⟩ := X_minutes hf (fco_home h)
  obtain ⟨-, -, -, f4, f5⟩ := hf
  unfold bt at hm
  have e3 : r.toInt = x + y := by
    rw [e2]
    unfold ab
    rw [if_pos (by omega), if_pos (by omega)]
    omega
  have t : (mi + r).toInt = mi.toInt + (x + y) := by rw [i32_add (by rw [e3]; omega) (by rw [e3]; omega), e3]
  refine ⟨mi + r, t, ?_, ?_⟩
  · intro hc
    unfold fX1_goOn_c23 fX1_goOn_c54
    rw [show fX1_minutesBetween (nI f) 7 σ = some (r, σ) from e1, xc2_t, xl_t]
    cases b with
    | none =>
      have hb : σ 38 7 = -1 := hb
      rw [if_pos hb]
    | some b =>
      obtain ⟨e0, w0⟩ := b
      obtain ⟨k1, k2, -⟩ := hb
      have := hc e0 w0 rfl
      rw [if_neg (show ¬ σ 38 7 = -1 from fun h9 => by rw [h9] at k1; have k1 : (-1 : Int) = e0 := k1; omega), if_neg (show ¬ σ 38 7 ≤ mi + r from fun h9 => by rw [fa_le, k1, t] at h9; omega)]
  · intro ⟨e0, w0, hb0, hc⟩
    rw [hb0] at hb
    obtain ⟨k1, k2, -⟩ := hb
    unfold fX1_goOn_c23 fX1_goOn_c54
    rw [show fX1_minutesBetween (nI f) 7 σ = some (r, σ) from e1, xc2_t, xl_t, if_neg (show ¬ σ 38 7 = -1 from fun h9 => by rw [h9] at k1; have k1 : (-1 : Int) = e0 := k1; omega), if_pos (show σ 38 7 ≤ mi + r from (fa_le _ _).mpr (by rw [k1, t]; omega))]
theorem X_goOn {N : Nat} {H : List sS} {s : sS} {tx : (Nat → Int32) × Nat} (hI : Inv N s) : ∀ (m : Nat) (w : List Nat) (V : Nat) (mi : Int32) (x y : Int) (d : Nat) (σ : xSt) (b : Option (Int × List Nat)), w.length + m = cS s → m < d → V < 128 → (rem_ V (cS s)).length = m → (∀ k, k < w.length → gl w k < 8 ∧ σ 45 k = nI (gl w k)) → RX σ (H, s, tx) → fco σ (lastS w) x y → bt mi 0 700 → wB s σ b → ∃ σ', fX1_goOn d (nI w.length) (nI V) mi σ = some σ' ∧ RX σ' (H, s, tx) ∧ wB s σ' (bs (runF s x y mi.toInt) w b (prm m (rem_ V (cS s)))) ∧ (∀ k, k < w.length → σ' 45 k = σ 45 k) ∧ fX σ σ' := by
  have h7 := hI.caps.2.2.1
  have e7 : s 7 = nI (cS s) := hI.caps.2.2.2.2.2.2.2.1
  intro m
  induction m with
  | zero =>
    intro w V mi x y d σ b hw hd hV hr hk h hf hm hb
    obtain ⟨d, rfl⟩ : ∃ z, d = z + 1 := ⟨d - 1, by omega⟩
    have a5 : σ 38 5 = nI (cS s) := (X_at_nshop h).trans e7
    have f4 := hf.2.2.2.1
    have f5 := hf.2.2.2.2
    have hm' := hm
    unfold bt at hm'
    obtain ⟨bk, m1, m2, m3⟩ := X_goMid h hf hm hb (fX1_goOn d) (nI w.length) (nI V)
    rw [X_goHead (by omega) hk]
    have yes : (∀ e0 w0, b = some (e0, w0) → mi.toInt + (x + y) < e0) → bs (runF s x y mi.toInt) w b (prm 0 (rem_ V (cS s))) = some (mi.toInt + (x + y), w ++ []) → ∃ σ', fX1_goOn_c23 (fX1_goOn d) (nI w.length) (nI V) mi (nI (lastS w)) σ = some σ' ∧ RX σ' (H, s, tx) ∧ wB s σ' (bs (runF s x y mi.toInt) w b (prm 0 (rem_ V (cS s)))) ∧ (∀ k, k < w.length → σ' 45 k = σ 45 k) ∧ fX σ σ' := fun hc he => by
      rw [m2 hc, he, List.append_nil]
      unfold fX1_goOn_c59 fX1_goOn_c75
      rw [a5, if_pos (nI_le (by omega) (by omega)), if_neg (show ¬ (1 : Int32) = 0 by decide), xp_t]
      have f1 : fX σ (xu σ 38 7 bk) := (fX.refl σ).xu 38 7 _ (by decide) (fun _ => by decide)
      have f2 : fX (xu σ 38 7 bk) (xcp (xu σ 38 7 bk) 45 44 0 0 7) := fX.one 44 (by decide) (by decide) (fun q hq => xcp_ne _ hq)
      refine ⟨xcp (xu σ 38 7 bk) 45 44 0 0 7, ?_, (h.scr f1).scr f2, ⟨by rw [xcp_ne _ (by decide), xu_at, upd_at]; exact m1, by omega, by omega, by omega, fun k hk2 => ?_⟩, fun k _ => by rw [xcp_ne _ (by decide), xu_ne _ _ _ (by decide)], f1.trans f2⟩
      · show xcpy (xu σ 38 7 bk) 45 7 (nI 0) 44 7 (nI 0) (nI 7) _ = _
        rw [xcpy_n (by decide) (by decide) (by decide) (by decide)]
      · refine ⟨(hk k (by omega)).1, ?_⟩
        rw [xcp_at]
        unfold va_cpy
        rw [if_pos (by omega), show 0 + (k - 0) = k by omega, xu_ne _ _ _ (by decide)]
        exact (hk k (by omega)).2
    cases b with
    | none => exact yes (fun e0 w0 h9 => nomatch h9) rfl
    | some b =>
      obtain ⟨e0, w0⟩ := b
      by_cases c : mi.toInt + (x + y) < e0
      · refine yes (fun e1 w1 h9 => by cases h9; exact c) ?_
        show (if mi.toInt + (x + y) < e0 then some (mi.toInt + (x + y), w ++ []) else some (e0, w0)) = _
        rw [if_pos c]
      · rw [m3 ⟨e0, w0, rfl, c⟩]
        unfold fX1_goOn_c59 fX1_goOn_c75
        rw [a5, if_pos (nI_le (by omega) (by omega)), if_pos rfl]
        have he : bs (runF s x y mi.toInt) w (some (e0, w0)) (prm 0 (rem_ V (cS s))) = some (e0, w0) := by
          show (if mi.toInt + (x + y) < e0 then some (mi.toInt + (x + y), w ++ []) else some (e0, w0)) = _
          rw [if_neg c]
        rw [he]
        exact ⟨σ, rfl, h, hb, fun _ _ => rfl, fX.refl σ⟩
  | succ m ih =>
    intro w V mi x y d σ b hw hd hV hr hk h hf hm hb
    obtain ⟨d, rfl⟩ : ∃ z, d = z + 1 := ⟨d - 1, by omega⟩
    have a5 : σ 38 5 = nI (cS s) := (X_at_nshop h).trans e7
    have hm' := hm
    unfold bt at hm'
    obtain ⟨bk, m1, m2, m3⟩ := X_goMid h hf hm hb (fX1_goOn d) (nI w.length) (nI V)
    rw [X_goHead (by omega) hk]
    by_cases c : ∃ e0 w0, b = some (e0, w0) ∧ ¬ mi.toInt + (x + y) < e0
    · rw [m3 c]
      obtain ⟨e0, w0, hb0, hc⟩ := c
      unfold fX1_goOn_c59
      rw [a5, if_neg (nI_ge (by omega) (by omega)), if_pos (show nI w.length < 7 from nI_lt (a := w.length) (b := 7) (by omega) (by decide)), if_pos rfl, hb0, bs_prune _ (fun p e hp he => by
        have := run_ge hI p x y mi.toInt e (fun a ha => (rem_mem.mp (prm_mem _ _ p hp a ha)).1) hm'.1 he
        omega)]
      rw [hb0] at hb
      exact ⟨σ, rfl, h, hb, fun _ _ => rfl, fX.refl σ⟩
    · rw [m2 (fun e0 w0 h9 => by
        by_cases g : mi.toInt + (x + y) < e0
        · exact g
        · exact absurd ⟨e0, w0, h9, g⟩ c)]
      unfold fX1_goOn_c59
      rw [a5, if_neg (nI_ge (by omega) (by omega)), if_pos (show nI w.length < 7 from nI_lt (a := w.length) (b := 7) (by omega) (by decide)), if_neg (show ¬ (1 : Int32) = 0 by decide)]
      refine X_shops hI (fr := fX1_goOn d) (m := m) hw hV hm (fun a mi' σ1 b1 ha hbit hk1 h1 hf1 hm1 hb1 => ?_) (cS s) 0 xFU σ b (Nat.zero_add _) (by show cS s < 8192; omega) hk h hf hb
      have r1 := rem_fin (cS s) (by omega) V hV a ha hbit
      have l1 : (w ++ [a]).length = w.length + 1 := by rw [List.length_append, List.length_singleton]
      have g := ih (w ++ [a]) (oV V a) mi' (sx s a) (sy s a) d σ1 b1 (by omega) (by omega) (bit7 V hV a (by omega)).2.2 (by omega) hk1 h1 (by rw [lastS_app]; exact hf1) hm1 hb1
      rw [l1] at g
      exact g
def bestW (s : sS) (m : Int) : Option (Int × List Nat) := bs (runF s 0 0 m) [] none (prm (cS s) (rg 0 (cS s)))
theorem X_findWay {N : Nat} {σ : xSt} {H : List sS} {s : sS} {tx : (Nat → Int32) × Nat} (h : RX σ (H, s, tx)) (hI : Inv N s) {mi : Int32} (hm : bt mi 0 700) : ∃ σ', fX1_findWay mi σ = some (match bestW s mi.toInt with | none => 0 | some _ => 1, σ') ∧ RX σ' (H, s, tx) ∧ wB s σ' (bestW s mi.toInt) ∧ fX σ σ' := by
  have h7 := hI.caps.2.2.1
  have f1 : fX σ (xu σ 38 7 (-1)) := (fX.refl σ).xu 38 7 _ (by decide) (fun _ => by decide)
  obtain ⟨z1, z2⟩ := rem_zero (cS s) (by omega)
  obtain ⟨σ', e1, e2, e3, e4, e5⟩ := X_goOn (tx := tx) (H := H) hI (cS s) [] 0 mi 0 0 10 (xu σ 38 7 (-1)) none (Nat.zero_add _) (by omega) (by decide) (by rw [z1]; exact z2) (fun k hk => absurd hk (Nat.not_lt_zero k)) (h.scr f1) (fco_home (h.scr f1)) hm (by show xu σ 38 7 (-1) 38 7 = -1; rw [xu_at, upd_at])
  rw [z1] at e3
  have e3 : wB s σ' (bestW s mi.toInt) := e3
  refine ⟨σ', ?_, e2, e3, f1.trans e5⟩
  unfold fX1_findWay
  rw [xp_t, show fX1_goOn 10 0 0 mi (xu σ 38 7 (-1)) = some σ' from e1, xc_t]
  cases hb : bestW s mi.toInt with
  | none =>
    rw [hb] at e3
    have e3 : σ' 38 7 = -1 := e3
    rw [if_pos e3]
  | some b =>
    rw [hb] at e3
    obtain ⟨e0, w0⟩ := b
    obtain ⟨k1, k2, -⟩ := e3
    rw [if_neg (show ¬ σ' 38 7 = -1 from fun h9 => by rw [h9] at k1; have k1 : (-1 : Int) = e0 := k1; omega)]
