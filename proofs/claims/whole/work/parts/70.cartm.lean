/-! ===== THE CART'S WAY: the model, and both ===== -/
theorem M_distance {p0 p1 : Int32} (h0 : bt p0 0 20) (h1 : bt p1 0 20) (σ : xSt) : ∃ r, fX12_distance p0 p1 σ = some (r, σ) ∧ r.toInt = ab (p0.toInt - p1.toInt) := by
  unfold bt at h0 h1
  unfold fX12_distance ab
  by_cases c : p1.toInt ≤ p0.toInt
  · rw [if_pos (show p1 ≤ p0 from (fa_le _ _).mpr c), if_pos (by omega)]
    exact ⟨_, rfl, i32_sub (by omega) (by omega)⟩
  · rw [if_neg (show ¬ p1 ≤ p0 from fun h9 => c ((fa_le _ _).mp h9)), if_neg (by omega)]
    exact ⟨_, rfl, by rw [i32_sub (by omega) (by omega)]; omega⟩
theorem gl_drop {l : List Nat} {k : Nat} (h : k < l.length) : l.drop k = gl l k :: l.drop (k + 1) := by
  rw [List.drop_eq_getElem_cons h]
  unfold gl
  rw [List.getD_eq_getElem?_getD, List.getElem?_eq_getElem h]
  rfl
theorem gl_mem {l : List Nat} {k : Nat} (h : k < l.length) : gl l k ∈ l := by
  unfold gl
  rw [List.getD_eq_getElem?_getD, List.getElem?_eq_getElem h]
  exact List.getElem_mem h
theorem M_back {N : Nat} {σ : xSt} {H : List sS} {s : sS} {tx : (Nat → Int32) × Nat} (h : RM σ (H, s, tx)) (hI : Inv N s) {l : List Nat} (hr : rowIs σ l) (hl : ∀ k, k < l.length → gl l k < cS s) : ∀ (d k n : Nat) (m x y : Int32), k + d = l.length → d < n → bt m 0 700 → bt x 0 20 → bt y 0 20 → ∃ r, fX12_back_c10 n m x y (nI k) σ = some (r, σ) ∧ (runF s x.toInt y.toInt m.toInt (l.drop k) = none → r = 2000000000) ∧ ∀ e, runF s x.toInt y.toInt m.toInt (l.drop k) = some e → r.toInt = e ∧ 0 ≤ e ∧ e ≤ 2000 := by
  obtain ⟨h7, h18, hk⟩ := id hr
  have hc7 := hI.caps.2.2.1
  intro d
  induction d with
  | zero =>
    intro k n m x y hkd hn hm hx hy
    obtain ⟨n, rfl⟩ : ∃ z, n = z + 1 := ⟨n - 1, by omega⟩
    obtain rfl : k = l.length := by omega
    unfold bt at hm hx hy
    rw [fX12_back_c10_s, h18, if_pos (nI_le (Nat.le_refl _) (by omega)), List.drop_length]
    have t1 : (m + x).toInt = m.toInt + x.toInt := i32_add (by omega) (by omega)
    have t2 : (m + x + y).toInt = m.toInt + x.toInt + y.toInt := by rw [i32_add (by rw [t1]; omega) (by rw [t1]; omega), t1]
    refine ⟨_, rfl, fun h9 => (nomatch h9), fun e he => ?_⟩
    have he : some (m.toInt + (x.toInt + y.toInt)) = some e := he
    cases he
    rw [t2]
    omega
  | succ d ih =>
    intro k n m x y hkd hn hm hx hy
    obtain ⟨n, rfl⟩ : ∃ z, n = z + 1 := ⟨n - 1, by omega⟩
    have hkl : k < l.length := by omega
    have ha := hl k hkl
    have sb := hI.shop (gl l k) ha
    have b := shop_b hI ha
    have a11 := (hk k hkl).2
    have c625 : σ 1 (625 + gl l k) = s (625 + gl l k) := M_at2 h (by omega)
    have c632 : σ 1 (632 + gl l k) = s (632 + gl l k) := M_at2 h (by omega)
    have c639 : σ 1 (639 + gl l k) = s (639 + gl l k) := M_at2 h (by omega)
    have c646 : σ 1 (646 + gl l k) = s (646 + gl l k) := M_at2 h (by omega)
    have c653 : σ 1 (653 + gl l k) = s (653 + gl l k) := M_at2 h (by omega)
    obtain ⟨r3, e3, d3⟩ := M_distance hx sb.1 σ
    obtain ⟨r6, e6, d6⟩ := M_distance hy sb.2.1 σ
    have d3 : r3.toInt = ab (x.toInt - sx s (gl l k)) := d3
    have d6 : r6.toInt = ab (y.toInt - sy s (gl l k)) := d6
    unfold bt at hm hx hy
    have v1 := ab_nn (x.toInt - sx s (gl l k))
    have v2 := ab_nn (y.toInt - sy s (gl l k))
    have v3 := ab_le (d := x.toInt - sx s (gl l k)) (B := 20) (by omega) (by omega)
    have v4 := ab_le (d := y.toInt - sy s (gl l k)) (B := 20) (by omega) (by omega)
    have t1 : (r3 + r6).toInt = ab (x.toInt - sx s (gl l k)) + ab (y.toInt - sy s (gl l k)) := by rw [i32_add (by rw [d3, d6]; omega) (by rw [d3, d6]; omega), d3, d6]
    have t2 : (m + (r3 + r6)).toInt = m.toInt + (ab (x.toInt - sx s (gl l k)) + ab (y.toInt - sy s (gl l k))) := by rw [i32_add (by rw [t1]; omega) (by rw [t1]; omega), t1]
    rw [gl_drop hkl]
    have er : runF s x.toInt y.toInt m.toInt (gl l k :: l.drop (k + 1)) = (match leav s (gl l k) x.toInt y.toInt m.toInt with | none => none | some m' => runF s (sx s (gl l k)) (sy s (gl l k)) m' (l.drop (k + 1))) := rfl
    rw [er, fX12_back_c10_s, h18, if_neg (nI_ge hkl (by omega)), xr_n (by omega) (by decide), a11, show (625 : Int32) = nI 625 from rfl, nI_add, xr_n (by omega) (by decide), c625, e3, xc2_t, show (632 : Int32) = nI 632 from rfl, nI_add, xr_n (by omega) (by decide), c632, e6, xc2_t, xl_t, show (646 : Int32) = nI 646 from rfl, nI_add, xr_n (by omega) (by decide), c646]
    unfold leav
    by_cases c : m.toInt + (ab (x.toInt - sx s (gl l k)) + ab (y.toInt - sy s (gl l k))) ≤ sCl s (gl l k)
    · rw [if_pos c, if_pos (show m + (r3 + r6) ≤ s (646 + gl l k) from (fa_le _ _).mpr (by rw [t2]; exact c)), show (639 : Int32) = nI 639 from rfl, nI_add, xr_n (by omega) (by decide), c639]
      have fin : ∀ t : Int32, t.toInt = (if m.toInt + (ab (x.toInt - sx s (gl l k)) + ab (y.toInt - sy s (gl l k))) < sOp s (gl l k) then sOp s (gl l k) else m.toInt + (ab (x.toInt - sx s (gl l k)) + ab (y.toInt - sy s (gl l k)))) → ∃ r, fX12_back_c111 (fX12_back_c10 n) (nI k) (nI (gl l k)) t σ = some (r, σ) ∧ (runF s (sx s (gl l k)) (sy s (gl l k)) ((if m.toInt + (ab (x.toInt - sx s (gl l k)) + ab (y.toInt - sy s (gl l k))) < sOp s (gl l k) then sOp s (gl l k) else m.toInt + (ab (x.toInt - sx s (gl l k)) + ab (y.toInt - sy s (gl l k)))) + sSt s (gl l k)) (l.drop (k + 1)) = none → r = 2000000000) ∧ ∀ e, runF s (sx s (gl l k)) (sy s (gl l k)) ((if m.toInt + (ab (x.toInt - sx s (gl l k)) + ab (y.toInt - sy s (gl l k))) < sOp s (gl l k) then sOp s (gl l k) else m.toInt + (ab (x.toInt - sx s (gl l k)) + ab (y.toInt - sy s (gl l k)))) + sSt s (gl l k)) (l.drop (k + 1)) = some e → r.toInt = e ∧ 0 ≤ e ∧ e ≤ 2000 := fun t ht => by
        have tb : 0 ≤ t.toInt ∧ t.toInt ≤ 600 := by rw [ht]; split <;> omega
        have t4 : (t + s (653 + gl l k)).toInt = t.toInt + sSt s (gl l k) := i32_add (by show _ ≤ _ + sSt s (gl l k); omega) (by show _ + sSt s (gl l k) < _; omega)
        unfold fX12_back_c111
        rw [show (653 : Int32) = nI 653 from rfl, nI_add, xr_n (by omega) (by decide), c653, xl_t, show (625 : Int32) = nI 625 from rfl, nI_add, xr_n (by omega) (by decide), c625, show (632 : Int32) = nI 632 from rfl, nI_add, xr_n (by omega) (by decide), c632, xl_t, nI_1, ← ht, ← t4]
        exact ih (k + 1) n _ _ _ (by omega) (by omega) ⟨by rw [t4]; omega, by rw [t4]; omega⟩ sb.1 sb.2.1
      by_cases c2 : m.toInt + (ab (x.toInt - sx s (gl l k)) + ab (y.toInt - sy s (gl l k))) < sOp s (gl l k)
      · rw [if_neg (show ¬ s (639 + gl l k) ≤ m + (r3 + r6) from fun h9 => by rw [fa_le, t2] at h9; have h9 : sOp s (gl l k) ≤ _ := h9; omega), xr_n (by omega) (by decide), c639]
        exact fin _ (by rw [if_pos c2]; rfl)
      · rw [if_pos (show s (639 + gl l k) ≤ m + (r3 + r6) from (fa_le _ _).mpr (by rw [t2]; show sOp s (gl l k) ≤ _; omega))]
        exact fin _ (by rw [if_neg c2]; exact t2)
    · rw [if_neg c, if_neg (show ¬ m + (r3 + r6) ≤ s (646 + gl l k) from fun h9 => by rw [fa_le, t2] at h9; exact c h9)]
      exact ⟨2000000000, rfl, fun _ => rfl, fun e he => nomatch he⟩
def mwB (n : Nat) (σ : xSt) : Option (Int × List Nat) → Prop
  | none => σ 0 19 = 2000000000
  | some (e, p) => (σ 0 19).toInt = e ∧ 0 ≤ e ∧ e ≤ 2000 ∧ p.length = n ∧ ∀ k, k < n → gl p k < 8 ∧ σ 12 k = nI (gl p k)
theorem mwB.frame {n : Nat} {σ σ' : xSt} {b : Option (Int × List Nat)} (h : mwB n σ b) (h1 : σ' 0 19 = σ 0 19) (h2 : σ' 12 = σ 12) : mwB n σ' b := by
  cases b with
  | none => show σ' 0 19 = 2000000000; rw [h1]; exact h
  | some b =>
    obtain ⟨e, p⟩ := b
    show (σ' 0 19).toInt = e ∧ 0 ≤ e ∧ e ≤ 2000 ∧ p.length = n ∧ ∀ k, k < n → gl p k < 8 ∧ σ' 12 k = nI (gl p k)
    rw [h1, h2]
    exact h
theorem M_keepsLoop {l : List Nat} : ∀ (d k n : Nat) (σ : xSt), k + d = l.length → d < n → rowIs σ l → (∀ j, j < k → σ 12 j = nI (gl l j)) → ∃ σ', fX12_keepsRow_c7 n (nI k) σ = some σ' ∧ (∀ j, j < l.length → σ' 12 j = nI (gl l j)) ∧ ∀ q, q ≠ 12 → σ' q = σ q := by
  intro d
  induction d with
  | zero =>
    intro k n σ hk hn hr hj
    obtain ⟨n, rfl⟩ : ∃ z, n = z + 1 := ⟨n - 1, by omega⟩
    obtain rfl : k = l.length := by omega
    have := hr.1
    rw [fX12_keepsRow_c7_s, hr.2.1, if_pos (nI_le (Nat.le_refl _) (by omega))]
    exact ⟨σ, rfl, hj, fun _ _ => rfl⟩
  | succ d ih =>
    intro k n σ hk hn hr hj
    obtain ⟨n, rfl⟩ : ∃ z, n = z + 1 := ⟨n - 1, by omega⟩
    have := hr.1
    rw [fX12_keepsRow_c7_s, hr.2.1, if_neg (nI_ge (by omega) (by omega)), xr_n (by omega) (by decide), (hr.2.2 k (by omega)).2, xs_n (by omega) (by decide), xl_t, nI_1]
    obtain ⟨σ', e1, e2, e3⟩ := ih (k + 1) n (xu σ 12 k (nI (gl l k))) (by omega) (by omega) (hr.frame (by rw [xu_ne _ _ _ (by decide)]) (xu_ne _ _ _ (by decide))) (fun j h9 => by
      rw [xu_at]
      by_cases e : j = k
      · rw [e, upd_at]
      · rw [upd_ne _ _ e]; exact hj j (by omega))
    exact ⟨σ', e1, e2, fun q hq => (e3 q hq).trans (xu_ne _ _ _ hq)⟩
theorem M_keepsRow {H : List sS} {s : sS} {tx : (Nat → Int32) × Nat} {l : List Nat} {σ : xSt} (h : RM σ (H, s, tx)) (hr : rowIs σ l) (e : Int32) (he : bt e 0 2000) : ∃ σ', fX12_keepsRow e σ = some σ' ∧ RM σ' (H, s, tx) ∧ fR σ σ' ∧ rowIs σ' l ∧ mwB l.length σ' (some (e.toInt, l)) := by
  have f1 : fR σ (xu σ 0 19 e) := (fR.refl σ).xu 0 19 _ (by decide)
  have h7 := hr.1
  obtain ⟨σ', e1, e2, e3⟩ := M_keepsLoop l.length 0 xFU (xu σ 0 19 e) (Nat.zero_add _) (by show _ < 8192; omega) (hr.frame (by rw [xu_at, upd_ne _ _ (by decide)]) (xu_ne _ _ _ (by decide))) (fun j h9 => absurd h9 (Nat.not_lt_zero j))
  have f2 : fR (xu σ 0 19 e) σ' := ⟨fun q h1 h3 => e3 q (by omega), fun k _ => by rw [e3 0 (by decide)]⟩
  refine ⟨σ', ?_, (h.scr2 f1).scr2 f2, f1.trans f2, hr.frame (by rw [e3 0 (by decide), xu_at, upd_ne _ _ (by decide)]) (by rw [e3 11 (by decide), xu_ne _ _ _ (by decide)]), by rw [e3 0 (by decide), xu_at, upd_at], he.1, he.2, rfl, fun k hk => ⟨(hr.2.2 k hk).1, e2 k hk⟩⟩
  unfold fX12_keepsRow
  rw [xp_t]
  exact e1
theorem okR_iff {n : Nat} {l : List Nat} (h : okR n l = true) : l.length = n ∧ ∀ k, k < l.length → gl l k < n := by
  unfold okR at h
  rw [Bool.and_eq_true] at h
  have h2 := List.all_eq_true.mp h.2
  exact ⟨eq_of_beq h.1, fun k hk => of_decide_eq_true (h2 _ (gl_mem hk))⟩
theorem chn_one {l : List Nat} (h : chn [l] = true) : nx l = none := by
  have h : ((nx l == none) && chn []) = true := h
  rw [Bool.and_eq_true] at h
  exact eq_of_beq h.1
theorem chn_two {l l' : List Nat} {t : List (List Nat)} (h : chn (l :: l' :: t) = true) : nx l = some l' ∧ chn (l' :: t) = true := by
  have h : ((nx l == some l') && chn (l' :: t)) = true := h
  rw [Bool.and_eq_true] at h
  exact ⟨eq_of_beq h.1, h.2⟩
theorem mwB_far {n : Nat} {σ : xSt} {b : Option (Int × List Nat)} (h : mwB n σ b) (X Y : Option (Int32 × xSt)) : (b = none → (if 2000000000 ≤ σ 0 19 then X else Y) = X) ∧ ∀ w, b = some w → (if 2000000000 ≤ σ 0 19 then X else Y) = Y := by
  cases b with
  | none =>
    have h : σ 0 19 = 2000000000 := h
    refine ⟨fun _ => ?_, fun w h9 => nomatch h9⟩
    rw [if_pos (by rw [h]; decide)]
  | some b =>
    obtain ⟨e, p⟩ := b
    obtain ⟨k1, k2, k3, -⟩ := h
    refine ⟨fun h9 => (nomatch h9), fun w h9 => ?_⟩
    rw [if_neg (show ¬ 2000000000 ≤ σ 0 19 from fun h9 => by rw [fa_le, k1] at h9; have h9 : (2000000000 : Int) ≤ e := h9; omega)]
theorem M_drvStep {N : Nat} {H : List sS} {s : sS} {tx : (Nat → Int32) × Nat} (hI : Inv N s) {mi : Int32} (hm : bt mi 0 700) {l : List Nat} {n : Nat} {σ : xSt} {b : Option (Int × List Nat)} (hok : okR (cS s) l = true) (h : RM σ (H, s, tx)) (hr : rowIs σ l) (hb : mwB (cS s) σ b) : ∃ σ1, fX12_drives_c42 (n + 1) mi 1 σ = fX12_drives_c65 (fX12_drives_c42 n) mi σ1 ∧ RM σ1 (H, s, tx) ∧ fR σ σ1 ∧ rowIs σ1 l ∧ mwB (cS s) σ1 (stB b (runF s 0 0 mi.toInt l) ([] ++ l)) := by
  obtain ⟨hlen, hel⟩ := okR_iff hok
  have h7 := hr.1
  obtain ⟨r, e1, g1, g2⟩ := M_back h hI hr hel l.length 0 xFU mi 0 0 (Nat.zero_add _) (by show _ < 8192; omega) hm ⟨by decide, by decide⟩ ⟨by decide, by decide⟩
  have g1 : runF s 0 0 mi.toInt l = none → r = 2000000000 := g1
  have g2 : ∀ e, runF s 0 0 mi.toInt l = some e → r.toInt = e ∧ 0 ≤ e ∧ e ≤ 2000 := g2
  rw [fX12_drives_c42_s, if_neg (show ¬ (1 : Int32) = 0 by decide)]
  unfold fX12_back
  rw [show fX12_back_c10 xFU mi 0 0 0 σ = some (r, σ) from e1, xc2_t]
  have keep : ∀ e, runF s 0 0 mi.toInt l = some e → stB b (some e) ([] ++ l) = some (e, l) → ¬ σ 0 19 ≤ r → ∃ σ1, (if σ 0 19 ≤ r then fX12_drives_c65 (fX12_drives_c42 n) mi σ else xc (fX12_keepsRow r σ) fun σ9 => fX12_drives_c65 (fX12_drives_c42 n) mi σ9) = fX12_drives_c65 (fX12_drives_c42 n) mi σ1 ∧ RM σ1 (H, s, tx) ∧ fR σ σ1 ∧ rowIs σ1 l ∧ mwB (cS s) σ1 (stB b (some e) ([] ++ l)) := fun e he hs hn => by
    obtain ⟨k1, k2, k3⟩ := g2 e he
    obtain ⟨σ1, a1, a2, a3, a4, a5⟩ := M_keepsRow h hr r ⟨by omega, by omega⟩
    rw [hlen, k1] at a5
    rw [if_neg hn, a1, xc_t, hs]
    exact ⟨σ1, rfl, a2, a3, a4, a5⟩
  cases hrun : runF s 0 0 mi.toInt l with
  | none =>
    rw [g1 hrun]
    refine ⟨σ, ?_, h, fR.refl σ, hr, hb⟩
    rw [if_pos]
    cases b with
    | none =>
      have hb : σ 0 19 = 2000000000 := hb
      rw [hb]; decide
    | some b =>
      obtain ⟨e0, w0⟩ := b
      obtain ⟨k1, k2, k3, -⟩ := hb
      rw [fa_le, k1]
      show e0 ≤ (2000000000 : Int)
      omega
  | some e =>
    obtain ⟨k1, k2, k3⟩ := g2 e hrun
    cases b with
    | none =>
      have hb0 : σ 0 19 = 2000000000 := hb
      exact keep e hrun rfl (by rw [hb0, fa_le, k1]; show ¬ (2000000000 : Int) ≤ e; omega)
    | some b =>
      obtain ⟨e0, w0⟩ := b
      obtain ⟨j1, j2, j3, j4⟩ := id hb
      by_cases c : e < e0
      · refine keep e hrun ?_ (by rw [fa_le, j1, k1]; omega)
        show (if e < e0 then some (e, [] ++ l) else some (e0, w0)) = _
        rw [if_pos c]; rfl
      · refine ⟨σ, ?_, h, fR.refl σ, hr, ?_⟩
        · rw [if_pos (by rw [fa_le, j1, k1]; omega)]
        · show mwB (cS s) σ (if e < e0 then some (e, [] ++ l) else some (e0, w0))
          rw [if_neg c]; exact hb
theorem M_drivesLoop {N : Nat} {H : List sS} {s : sS} {tx : (Nat → Int32) × Nat} (hI : Inv N s) {mi : Int32} (hm : bt mi 0 700) : ∀ (t : List (List Nat)) (l : List Nat) (n : Nat) (σ : xSt) (b : Option (Int × List Nat)), chn (l :: t) = true → (l :: t).all (okR (cS s)) = true → t.length + 1 < n → RM σ (H, s, tx) → rowIs σ l → mwB (cS s) σ b → ∃ σ', fX12_drives_c42 n mi 1 σ = some (match bs (runF s 0 0 mi.toInt) [] b (l :: t) with | none => 0 | some _ => 1, σ') ∧ RM σ' (H, s, tx) ∧ fR σ σ' ∧ mwB (cS s) σ' (bs (runF s 0 0 mi.toInt) [] b (l :: t)) := by
  intro t
  induction t with
  | nil =>
    intro l n σ b hch hok hn h hr hb
    obtain ⟨n, rfl⟩ : ∃ z, n = z + 1 + 1 := ⟨n - 2, by have : 0 + 1 < n := hn; omega⟩
    rw [List.all_cons, Bool.and_eq_true] at hok
    obtain ⟨σ1, a1, a2, a3, a4, a5⟩ := M_drvStep (n := n + 1) hI hm hok.1 h hr hb
    have nr := (M_nextRow a4).1 (chn_one hch)
    rw [a1]
    unfold fX12_drives_c65
    rw [nr, xc2_t, fX12_drives_c42_s, if_pos rfl]
    refine ⟨σ1, ?_, a2, a3, a5⟩
    have far := mwB_far a5 (some (0, σ1)) (some (1, σ1))
    rw [show bs (runF s 0 0 mi.toInt) [] b [l] = stB b (runF s 0 0 mi.toInt l) ([] ++ l) from rfl]
    cases hb2 : stB b (runF s 0 0 mi.toInt l) ([] ++ l) with
    | none => exact far.1 hb2
    | some w => exact far.2 w hb2
  | cons l' t ih =>
    intro l n σ b hch hok hn h hr hb
    have hn : t.length + 1 + 1 < n := hn
    obtain ⟨n, rfl⟩ : ∃ z, n = z + 1 := ⟨n - 1, by omega⟩
    rw [List.all_cons, Bool.and_eq_true] at hok
    obtain ⟨σ1, a1, a2, a3, a4, a5⟩ := M_drvStep (n := n) hI hm hok.1 h hr hb
    obtain ⟨c1, c2⟩ := chn_two hch
    obtain ⟨σ2, b1, b2, b3⟩ := (M_nextRow a4).2 l' c1
    have f2 : fR σ1 σ2 := ⟨fun q h1 h3 => b3 q (by omega), fun k _ => by rw [b3 0 (by decide)]⟩
    obtain ⟨σ3, d1, d2, d3, d4⟩ := ih l' n σ2 _ c2 hok.2 (by omega) (a2.scr2 f2) b2 (a5.frame (by rw [b3 0 (by decide)]) (b3 12 (by decide)))
    refine ⟨σ3, ?_, d2, (a3.trans f2).trans d3, d4⟩
    rw [a1]
    unfold fX12_drives_c65
    rw [b1, xc2_t]
    exact d1
theorem gl_rg : ∀ (n j k : Nat), k < n → gl (rg j n) k = j + k
  | 0, _, _, h => by omega
  | n + 1, j, 0, _ => rfl
  | n + 1, j, k + 1, h => by
    show gl (rg (j + 1) n) k = _
    rw [gl_rg n (j + 1) k (by omega)]
    omega
theorem rg_len : ∀ (n j : Nat), (rg j n).length = n
  | 0, _ => rfl
  | n + 1, j => by
    show (rg (j + 1) n).length + 1 = n + 1
    rw [rg_len n (j + 1)]
theorem M_drvInit {H : List sS} {s : sS} {tx : (Nat → Int32) × Nat} (h7 : cS s ≤ 7) {mi : Int32} : ∀ (d k n : Nat) (σ : xSt), k + d = cS s → d < n → RM σ (H, s, tx) → σ 0 18 = nI (cS s) → (∀ j, j < k → σ 11 j = nI j) → ∃ σ1, fX12_drives_c13 n mi (nI k) σ = fX12_drives_c42 xFU mi 1 (xu σ1 0 19 2000000000) ∧ RM σ1 (H, s, tx) ∧ fR σ σ1 ∧ rowIs σ1 (rg 0 (cS s)) := by
  intro d
  induction d with
  | zero =>
    intro k n σ hk hn h h18 hj
    obtain ⟨n, rfl⟩ : ∃ z, n = z + 1 := ⟨n - 1, by omega⟩
    obtain rfl : k = cS s := by omega
    rw [fX12_drives_c13_s, h18, if_pos (nI_le (Nat.le_refl _) (by omega)), xp_t]
    refine ⟨σ, rfl, h, fR.refl σ, by rw [rg_len]; exact h7, by rw [rg_len]; exact h18, fun j h9 => ?_⟩
    rw [rg_len] at h9
    rw [gl_rg _ _ _ h9, Nat.zero_add]
    exact ⟨by omega, hj j h9⟩
  | succ d ih =>
    intro k n σ hk hn h h18 hj
    obtain ⟨n, rfl⟩ : ∃ z, n = z + 1 := ⟨n - 1, by omega⟩
    rw [fX12_drives_c13_s, h18, if_neg (nI_ge (by omega) (by omega)), xs_n (by omega) (by decide), xl_t, nI_1]
    have f1 : fR σ (xu σ 11 k (nI k)) := (fR.refl σ).xu 11 k _ (by omega)
    obtain ⟨σ1, a1, a2, a3, a4⟩ := ih (k + 1) n (xu σ 11 k (nI k)) (by omega) (by omega) (h.scr2 f1) (by rw [xu_ne _ _ _ (by decide)]; exact h18) (fun j h9 => by
      rw [xu_at]
      by_cases e : j = k
      · rw [e, upd_at]
      · rw [upd_ne _ _ e]; exact hj j (by omega))
    exact ⟨σ1, a1, a2, f1.trans a3, a4⟩
theorem M_drives {N : Nat} {σ : xSt} {H : List sS} {s : sS} {tx : (Nat → Int32) × Nat} (h : RM σ (H, s, tx)) (hI : Inv N s) {mi : Int32} (hm : bt mi 0 700) : ∃ σ', fX12_drives mi σ = some (match bestW s mi.toInt with | none => 0 | some _ => 1, σ') ∧ RM σ' (H, s, tx) ∧ fR σ σ' ∧ mwB (cS s) σ' (bestW s mi.toInt) := by
  have h7 := hI.caps.2.2.1
  have e7 : s 7 = nI (cS s) := hI.caps.2.2.2.2.2.2.2.1
  have a7 : σ 1 7 = nI (cS s) := (M_at2 h (by decide)).trans e7
  have f1 : fR σ (xu σ 0 18 (nI (cS s))) := (fR.refl σ).xu 0 18 _ (by decide)
  obtain ⟨σ1, a1, a2, a3, a4⟩ := M_drvInit (H := H) (tx := tx) h7 (mi := mi) (cS s) 0 xFU (xu σ 0 18 (nI (cS s))) (Nat.zero_add _) (by show cS s < 8192; omega) (h.scr2 f1) (by rw [xu_at, upd_at]) (fun j hj => absurd hj (Nat.not_lt_zero j))
  have f2 : fR σ1 (xu σ1 0 19 2000000000) := (fR.refl σ1).xu 0 19 _ (by decide)
  obtain ⟨q1, q2, q3, q4⟩ := chn_all (cS s) (by omega)
  unfold fX12_drives
  rw [show (7 : Int32) = nI 7 from rfl, xr_n (by decide) (by decide), a7, xp_t, show fX12_drives_c13 xFU mi 0 (xu σ 0 18 (nI (cS s))) = _ from a1]
  unfold bestW
  cases hL : prm (cS s) (rg 0 (cS s)) with
  | nil => rw [hL] at q4; exact nomatch q4
  | cons l t =>
    rw [hL] at q1 q2 q3 q4
    have q4 : some l = some (rg 0 (cS s)) := q4
    cases q4
    have q3 : t.length + 1 ≤ 5040 := q3
    obtain ⟨σ2, b1, b2, b3, b4⟩ := M_drivesLoop (tx := tx) (H := H) hI hm t (rg 0 (cS s)) xFU (xu σ1 0 19 2000000000) none q1 q2 (by show _ < 8192; omega) (a2.scr2 f2) (a4.frame (by rw [xu_at, upd_ne _ _ (by decide)]) (xu_ne _ _ _ (by decide))) (by show xu σ1 0 19 2000000000 0 19 = 2000000000; rw [xu_at, upd_at])
    exact ⟨σ2, b1, b2, ((f1.trans a3).trans f2).trans b3, b4⟩
theorem XM_comesBack {N : Nat} {σ τ : xSt} {H : List sS} {s : sS} {tx : (Nat → Int32) × Nat} (hx : RX σ (H, s, tx)) (hm : RM τ (H, s, tx)) (hI : Inv N s) (p0 : Int32) : ∃ o, XR (fX11_comesBack p0 σ) (o, (H, s, tx)) ∧ MR (fX12_comesBack p0 τ) 9 1 9 2 (o, (H, s, tx)) ∧ ∀ k, o = .inr k → k = 1 ∨ k = 3 := by
  unfold fX11_comesBack fX12_comesBack
  rw [X_isWithin, xc2_t, M_in, xc2_t]
  by_cases g : 0 ≤ p0 ∧ p0 ≤ 600
  · have hb : bt p0 0 700 := by
      have g1 := (fa_le _ _).mp g.1
      have g2 := (fa_le _ _).mp g.2
      exact ⟨g1, by have g2 : p0.toInt ≤ (600 : Int) := g2; omega⟩
    rw [if_pos g, X_needArgument1, xct_l, M_can1, xc2_t, if_neg (show ¬ (1 : Int32) = 0 by decide)]
    obtain ⟨σ1, a1, a2, a3, a4⟩ := X_findWay hx hI hb
    obtain ⟨τ1, b1, b2, b3, b4⟩ := M_drives (hm.raised 0) hI hb
    rw [a1, xc2_t, b1, xc2_t]
    cases hw : bestW s p0.toInt with
    | none =>
      refine ⟨.inr 3, ?_, ?_, fun k hk => by cases hk; decide⟩
      · show XR (xct (fX11_needElement 0 σ1) _) _
        rw [X_needElement0, xct_r]
        exact ⟨σ1, rfl, a2⟩
      · show MR (xc2 (fX12_can 0 2 τ1) _) _ _ _ _ _
        rw [M_can0, xc2_t, if_pos rfl]
        exact ⟨_, _, rfl, b2.raised 2, rfl, fun v hv => nomatch hv⟩
    | some w =>
      rw [hw] at a3 b4
      obtain ⟨e, p⟩ := w
      refine ⟨.inl (σ1 38 7), ?_, ?_, fun k hk => nomatch hk⟩
      · show XR (xct (fX11_needElement 1 σ1) _) _
        rw [X_needElement1, xct_l]
        exact ⟨σ1, rfl, a2⟩
      · show MR (xc2 (fX12_can 1 2 τ1) _) _ _ _ _ _
        rw [M_can1, xc2_t, if_neg (show ¬ (1 : Int32) = 0 by decide)]
        have e9 : σ1 38 7 = xu τ1 0 0 0 0 19 := by
          rw [xu_at, upd_ne _ _ (by decide), fa_eq, a3.1, b4.1]
        exact ⟨_, _, rfl, b2.raised 0, rfl, fun v hv => (Sum.inl.inj hv).symm.trans e9⟩
  · rw [if_neg g, X_needArgument0, xct_r, M_can0, xc2_t, if_pos rfl]
    exact ⟨.inr 1, ⟨σ, rfl, hx⟩, ⟨_, _, rfl, hm.raised 1, rfl, fun v hv => nomatch hv⟩, fun k hk => by cases hk; decide⟩
theorem XM_shopOf {N : Nat} {σ τ : xSt} {H : List sS} {s : sS} {tx : (Nat → Int32) × Nat} (hx : RX σ (H, s, tx)) (hm : RM τ (H, s, tx)) (hI : Inv N s) (p0 p1 : Int32) : ∃ o, XR (fX11_shopOf p0 p1 σ) (o, (H, s, tx)) ∧ MR (fX12_shopOf p0 p1 τ) 1 2 9 3 (o, (H, s, tx)) ∧ ∀ k, o = .inr k → k = 0 ∨ k = 1 ∨ k = 3 := by
  have h7 := hI.caps.2.2.1
  have e7 : s 7 = nI (cS s) := hI.caps.2.2.2.2.2.2.2.1
  have a5 : σ 38 5 = s 7 := X_at_nshop hx
  have a7 : τ 1 7 = s 7 := M_at2 hm (by decide)
  unfold fX11_shopOf fX12_shopOf
  rw [a5, X_isWithin, xc2_t, show (7 : Int32) = nI 7 from rfl, xr_n (by decide) (by decide), a7, M_in, xc2_t]
  by_cases c : 0 ≤ p1 ∧ p1 ≤ s 7 - 1
  · obtain ⟨k, hk, rfl⟩ := x_cnt e7 (by omega) c
    rw [if_pos c, X_needIndex1, xct_l, M_can1, xc2_t, if_neg (show ¬ (1 : Int32) = 0 by decide), X_isWithin, xc2_t, M_in, xc2_t]
    by_cases g : 0 ≤ p0 ∧ p0 ≤ 600
    · have hb : bt p0 0 700 := by
        have g1 := (fa_le _ _).mp g.1
        have g2 := (fa_le _ _).mp g.2
        exact ⟨g1, by have g2 : p0.toInt ≤ (600 : Int) := g2; omega⟩
      rw [if_pos g, X_needArgument1, xct_l, M_can1, xc2_t, if_neg (show ¬ (1 : Int32) = 0 by decide)]
      obtain ⟨σ1, a1, a2, a3, a4⟩ := X_findWay hx hI hb
      obtain ⟨τ1, b1, b2, b3, b4⟩ := M_drives ((hm.raised 0).raised 0) hI hb
      rw [a1, xc2_t, b1, xc2_t]
      cases hw : bestW s p0.toInt with
      | none =>
        refine ⟨.inr 3, ?_, ?_, fun k hk => by cases hk; decide⟩
        · show XR (xct (fX11_needElement 0 σ1) _) _
          rw [X_needElement0, xct_r]
          exact ⟨σ1, rfl, a2⟩
        · show MR (xc2 (fX12_can 0 3 τ1) _) _ _ _ _ _
          rw [M_can0, xc2_t, if_pos rfl]
          exact ⟨_, _, rfl, b2.raised 3, rfl, fun v hv => nomatch hv⟩
      | some w =>
        rw [hw] at a3 b4
        obtain ⟨e, p⟩ := w
        have k1 := a3.2.2.2.2 k hk
        have k2 := b4.2.2.2.2 k hk
        refine ⟨.inl (nI (gl p k)), ?_, ?_, fun k hk => nomatch hk⟩
        · show XR (xct (fX11_needElement 1 σ1) _) _
          rw [X_needElement1, xct_l, xr_n (by omega) (by decide), k1.2]
          exact ⟨σ1, rfl, a2⟩
        · show MR (xc2 (fX12_can 1 3 τ1) _) _ _ _ _ _
          rw [M_can1, xc2_t, if_neg (show ¬ (1 : Int32) = 0 by decide), xr_n (by omega) (by decide), xu_ne _ _ _ (by decide), k2.2]
          exact ⟨_, _, rfl, b2.raised 0, rfl, fun v hv => (Sum.inl.inj hv).symm⟩
    · rw [if_neg g, X_needArgument0, xct_r, M_can0, xc2_t, if_pos rfl]
      exact ⟨.inr 1, ⟨σ, rfl, hx⟩, ⟨_, _, rfl, (hm.raised 0).raised 2, rfl, fun v hv => nomatch hv⟩, fun k hk => by cases hk; decide⟩
  · rw [if_neg c, X_needIndex0, xct_r, M_can0, xc2_t, if_pos rfl]
    exact ⟨.inr 0, ⟨σ, rfl, hx⟩, ⟨_, _, rfl, hm.raised 1, rfl, fun v hv => nomatch hv⟩, fun k hk => by cases hk; decide⟩
