/-! ===== THE CHEAPEST MIX: the model's corners, and both together ===== -/
def reqK (s : sS) (lo hi : Int) (k : Nat) (c : Cd) : Prop := (∃ i, i < 4 ∧ dg k i = 2 ∧ (∀ f, f < 4 → f ≠ i → dg k f ≠ 2) ∧ c = oneC s (mS k) i) ∨ ∃ i j w, i < 4 ∧ j < 4 ∧ i ≠ j ∧ dg k i = 2 ∧ dg k j = 2 ∧ (∀ f, f < 4 → f ≠ i → f ≠ j → dg k f ≠ 2) ∧ stI s j < stI s i ∧ (w = lo ∨ w = hi) ∧ c = twoC s (mS k) i j w
theorem mS_free {k i : Nat} (h : dg k i = 2) : mS k i = false := by
  unfold mS
  rw [h]
  rfl
theorem M_corner {N : Nat} {σ : xSt} {H : List sS} {s : sS} {tx : (Nat → Int32) × Nat} (h : RM σ (H, s, tx)) (hI : Inv N s) {k : Nat} (hk : k < 81) {p0 p1 : Int32} (h0 : bt p0 0 200) (h1 : bt p1 0 200) {T : Cd → Prop} (hB : MB s p0.toInt p1.toInt σ T) : ∃ σ' T', fX12_corner (nI k) p0 p1 σ = some σ' ∧ RM σ' (H, s, tx) ∧ fR σ σ' ∧ MB s p0.toInt p1.toInt σ' T' ∧ (∀ c, T c → T' c) ∧ (∀ c, T' c → T c ∨ TZ s p0.toInt p1.toInt c) ∧ (∀ c, reqK s p0.toInt p1.toInt k c → T' c) := by
  obtain ⟨σ1, f1, f2, f3, f4, f5, f6, f7⟩ := M_fixesE h hI hk (by_ := 1) ⟨by decide, by decide⟩
  have v1 : ∀ f, f < 4 → (σ1 9 f).toInt = eS s (mS k) f ∧ -200000 ≤ eS s (mS k) f ∧ eS s (mS k) f ≤ 200000 := fun f hf => by
    have := eS_b hI (mS k) f
    refine ⟨?_, by omega, by omega⟩
    rw [f7 f hf]; exact Int.mul_one _
  have hs := eS_sums hI (mS k) 4 (Nat.le_refl 4)
  obtain ⟨r1, e1, k1⟩ := M_freeIn hk σ 4 0 xFU rfl (by decide)
  unfold fX12_corner fX12_freeIn
  rw [show fX12_freeIn_c2 xFU (nI k) 0 σ = some (enc r1, σ) from e1, xc2_t]
  cases r1 with
  | none =>
    have k1 : ∀ g, 0 ≤ g → g < 4 → dg k g ≠ 2 := k1
    rw [if_pos (show enc none = -1 from rfl)]
    unfold fX12_corner_c25 fX12_corner_c46
    rw [if_pos (show (-1 : Int32) = -1 from rfl), if_pos (show (-1 : Int32) = -1 from rfl), f1, xc_t, if_pos (show enc none = -1 from rfl)]
    obtain ⟨σ2, g1, g2, g3, g4⟩ := M_looksAt f2 hI (zerC_cbw hI (mS k)) (c := zerC s (mS k)) ⟨by rw [f5]; rfl, fun f hf => (v1 f hf).1⟩ h0 h1 (hB.frame f4 f6)
    unfold fX12_corner_c104
    rw [g1, xc_t]
    refine ⟨σ2, _, rfl, g2, f3.trans g3, g4, fun c hc => Or.inl hc, fun c hc => ?_, fun c hc => ?_⟩
    · rcases hc with hc | hc
      · exact Or.inl hc
      · exact Or.inr (Or.inr ⟨_, hc⟩)
    · rcases hc with ⟨i, hi, hd, -⟩ | ⟨i, j, w, hi, hj, hij, hd, -⟩
      · exact absurd hd (k1 i (Nat.zero_le _) hi)
      · exact absurd hd (k1 i (Nat.zero_le _) hi)
  | some i =>
    obtain ⟨-, hi, hdi, hlow⟩ := k1
    have nm : ¬ enc (some i) = -1 := nIm1 (by omega)
    obtain ⟨r3, e3, k3⟩ := M_freeIn hk σ (3 - i) (i + 1) xFU (by omega) (by show _ < 8192; omega)
    rw [if_neg nm]
    rw [show fX12_freeIn_c2 xFU (nI k) (enc (some i) + 1) σ = some (enc r3, σ) from by
      show fX12_freeIn_c2 xFU (nI k) (nI i + 1) σ = _
      rw [nI_1]; exact e3, xc2_t]
    cases r3 with
    | none =>
      have k3 : ∀ g, i + 1 ≤ g → g < 4 → dg k g ≠ 2 := k3
      have only : ∀ f, f < 4 → dg k f = 2 → f = i := fun f hf hd => by
        by_cases a : f < i
        · exact absurd hd (hlow f (Nat.zero_le _) a)
        · by_cases b : f = i
          · exact b
          · exact absurd hd (k3 f (by omega) hf)
      obtain ⟨r9, s1, s2⟩ := M_sumN f2 hI v1
      have t9 : (100 - r9).toInt = 100 - sumI (eS s (mS k)) 4 := by
        rw [i32_sub (by rw [s2]; show _ ≤ (100 : Int) - _; omega) (by rw [s2]; show (100 : Int) - _ < _; omega), s2]; rfl
      have w1 : fR σ1 (xu σ1 9 i (100 - r9)) := (fR.refl σ1).xu 9 i _ (by omega)
      obtain ⟨σ2, g1, g2, g3, g4⟩ := M_looksAt (f2.scr2 w1) hI (oneC_cbw hI (mS k) i) (c := oneC s (mS k) i) ⟨by rw [xu_ne _ _ _ (by decide), f5]; rfl, fun f hf => by
        rw [xu_at]
        show _ = if f = i then 100 - sumI (eS s (mS k)) 4 else eS s (mS k) f
        by_cases e : f = i
        · rw [if_pos e, e, upd_at]; exact t9
        · rw [if_neg e, upd_ne _ _ e]; exact (v1 f hf).1⟩ h0 h1 (hB.frame (σ' := xu σ1 9 i (100 - r9)) (by rw [xu_ne _ _ _ (by decide), f4]) (by rw [xu_ne _ _ _ (by decide), f6]))
      unfold fX12_corner_c25 fX12_corner_c46
      rw [if_pos (show enc none = -1 from rfl), if_pos (show enc none = -1 from rfl), f1, xc_t, if_neg nm, s1, xc2_t]
      show ∃ σ' T', xs σ1 9 4 (nI i) (100 - r9) _ = _ ∧ _
      rw [xs_n (by omega) (by decide)]
      unfold fX12_corner_c104
      rw [g1, xc_t]
      refine ⟨σ2, _, rfl, g2, (f3.trans w1).trans g3, g4, fun c hc => Or.inl hc, fun c hc => ?_, fun c hc => ?_⟩
      · rcases hc with hc | hc
        · exact Or.inl hc
        · exact Or.inr (Or.inl (Or.inl ⟨_, i, hi, mS_free hdi, hc⟩))
      · rcases hc with ⟨i', hi', hd', -, hc⟩ | ⟨i', j', w, hi', hj', hij, hd1, hd2, -⟩
        · rw [only i' hi' hd'] at hc; exact Or.inr hc
        · exact absurd ((only i' hi' hd1).trans (only j' hj' hd2).symm) hij
    | some j =>
      obtain ⟨hij, hj, hdj, hmid⟩ := k3
      have nm2 : ¬ enc (some j) = -1 := nIm1 (by omega)
      obtain ⟨r5, e5, k5⟩ := M_freeIn hk σ (3 - j) (j + 1) xFU (by omega) (by show _ < 8192; omega)
      unfold fX12_corner_c25 fX12_freeIn
      rw [if_neg nm2]
      rw [show fX12_freeIn_c2 xFU (nI k) (enc (some j) + 1) σ = some (enc r5, σ) from by
        show fX12_freeIn_c2 xFU (nI k) (nI j + 1) σ = _
        rw [nI_1]; exact e5, xc2_t]
      cases r5 with
      | none =>
        have k5 : ∀ g, j + 1 ≤ g → g < 4 → dg k g ≠ 2 := k5
        have only : ∀ f, f < 4 → dg k f = 2 → f = i ∨ f = j := fun f hf hd => by
          by_cases a : f < i
          · exact absurd hd (hlow f (Nat.zero_le _) a)
          · by_cases b : f = i
            · exact Or.inl b
            · by_cases c : f < j
              · exact absurd hd (hmid f (by omega) c)
              · by_cases d : f = j
                · exact Or.inr d
                · exact absurd hd (k5 f (by omega) hf)
        rw [if_pos (show enc none = -1 from rfl)]
        obtain ⟨σ2, g1, g2, g3, g4⟩ := M_ties h hI hk hi hj (by omega) h0 h1 h0 hB
        obtain ⟨σ3, q1, q2, q3, q4⟩ := M_ties g2 hI hk hi hj (by omega) h0 h1 h1 g4
        unfold fX12_corner_c46
        rw [if_neg nm2]
        rw [show fX12_ties (nI k) (enc (some i)) (enc (some j)) p0 p0 p1 σ = some σ2 from g1, xc_t, show fX12_ties (nI k) (enc (some i)) (enc (some j)) p1 p0 p1 σ2 = some σ3 from q1, xc_t]
        have mi := mS_free hdi
        have mj := mS_free hdj
        refine ⟨σ3, _, rfl, q2, g3.trans q3, q4, fun c hc => Or.inl (Or.inl hc), fun c hc => ?_, fun c hc => ?_⟩
        · rcases hc with (hc | ⟨l, hc⟩ | ⟨l, hc⟩) | ⟨l, hc⟩ | ⟨l, hc⟩
          · exact Or.inl hc
          · exact Or.inr (Or.inl (Or.inr ⟨_, i, j, _, hi, hj, mi, mj, l, Or.inl rfl, hc⟩))
          · exact Or.inr (Or.inl (Or.inr ⟨_, j, i, _, hj, hi, mj, mi, l, Or.inl rfl, hc⟩))
          · exact Or.inr (Or.inl (Or.inr ⟨_, i, j, _, hi, hj, mi, mj, l, Or.inr rfl, hc⟩))
          · exact Or.inr (Or.inl (Or.inr ⟨_, j, i, _, hj, hi, mj, mi, l, Or.inr rfl, hc⟩))
        · rcases hc with ⟨i', hi', hd', hno, hc⟩ | ⟨i', j', w, hi', hj', hne, hd1, hd2, -, hl, hw, hc⟩
          · exfalso
            by_cases a : i = i'
            · exact hno j hj (by omega) hdj
            · exact hno i hi a hdi
          · have oi := only i' hi' hd1
            have oj := only j' hj' hd2
            rcases oi with oi | oi
            · rcases oj with oj | oj
              · exact absurd (oi.trans oj.symm) hne
              · rw [oi, oj] at hl hc
                rcases hw with hw | hw
                · rw [hw] at hc; exact Or.inl (Or.inr (Or.inl ⟨hl, hc⟩))
                · rw [hw] at hc; exact Or.inr (Or.inl ⟨hl, hc⟩)
            · rcases oj with oj | oj
              · rw [oi, oj] at hl hc
                rcases hw with hw | hw
                · rw [hw] at hc; exact Or.inl (Or.inr (Or.inr ⟨hl, hc⟩))
                · rw [hw] at hc; exact Or.inr (Or.inr ⟨hl, hc⟩)
              · exact absurd (oi.trans oj.symm) hne
      | some m =>
        obtain ⟨hjm, hm, hdm, -⟩ := k5
        rw [if_neg (show ¬ enc (some m) = -1 from nIm1 (by omega))]
        refine ⟨σ, T, rfl, h, fR.refl σ, hB, fun c hc => hc, fun c hc => Or.inl hc, fun c hc => ?_⟩
        exfalso
        rcases hc with ⟨i', hi', hd', hno, -⟩ | ⟨i', j', w, hi', hj', hne, hd1, hd2, hno, -⟩
        · by_cases a : i = i'
          · exact hno j hj (by omega) hdj
          · exact hno i hi a hdi
        · by_cases a : i = i' ∨ i = j'
          · by_cases b : j = i' ∨ j = j'
            · exact hno m hm (by omega) (by omega) hdm
            · exact hno j hj (by omega) (by omega) hdj
          · exact hno i hi (by omega) (by omega) hdi
theorem M_corners {N : Nat} {H : List sS} {s : sS} {tx : (Nat → Int32) × Nat} (hI : Inv N s) {p0 p1 : Int32} (h0 : bt p0 0 200) (h1 : bt p1 0 200) : ∀ (d k n : Nat) (σ : xSt) (T : Cd → Prop), k + d = 81 → d < n → RM σ (H, s, tx) → MB s p0.toInt p1.toInt σ T → ∃ σ' b T', fX12_mixes_c7 n p0 p1 (nI k) σ = some (match b with | none => 0 | some _ => 1, σ') ∧ RM σ' (H, s, tx) ∧ fR σ σ' ∧ mBst σ' b ∧ Mn s p0.toInt p1.toInt T' b ∧ (∀ c, T c → T' c) ∧ (∀ c, T' c → T c ∨ TZ s p0.toInt p1.toInt c) ∧ (∀ k', k ≤ k' → k' < 81 → ∀ c, reqK s p0.toInt p1.toInt k' c → T' c) := by
  intro d
  induction d with
  | zero =>
    intro k n σ T hk hn h hB
    obtain ⟨n, rfl⟩ : ∃ z, n = z + 1 := ⟨n - 1, by omega⟩
    obtain rfl : k = 81 := by omega
    obtain ⟨b, g1, g2⟩ := hB
    rw [fX12_mixes_c7_s, if_pos (show (81 : Int32) ≤ nI 81 by decide)]
    refine ⟨σ, b, T, ?_, h, fR.refl σ, g1, g2, fun c hc => hc, fun c hc => Or.inl hc, fun k' hk' => by omega⟩
    cases b with
    | none =>
      have g1 : σ 0 15 = 0 := g1
      rw [if_pos (by rw [g1]; decide)]
    | some b =>
      obtain ⟨k1, k2, k3⟩ := g1
      have := k1.1
      rw [if_neg (show ¬ σ 0 15 ≤ 0 from fun h9 => by rw [fa_le, k2] at h9; have h9 : b.2 ≤ (0 : Int) := h9; omega)]
  | succ d ih =>
    intro k n σ T hk hn h hB
    obtain ⟨n, rfl⟩ : ∃ z, n = z + 1 := ⟨n - 1, by omega⟩
    obtain ⟨σ1, T1, a1, a2, a3, a4, a5, a6, a7⟩ := M_corner h hI (k := k) (by omega) h0 h1 hB
    obtain ⟨σ2, b, T2, b1, b2, b3, b4, b5, b6, b7, b8⟩ := ih (k + 1) n σ1 T1 (by omega) (by omega) a2 a4
    rw [fX12_mixes_c7_s, if_neg (show ¬ (81 : Int32) ≤ nI k from nI_ge (a := k) (b := 81) (by omega) (by decide)), a1, xc_t, xl_t, nI_1]
    refine ⟨σ2, b, T2, b1, b2, a3.trans b3, b4, b5, fun c hc => b6 c (a5 c hc), fun c hc => ?_, fun k' g1 g2 c hc => ?_⟩
    · rcases b7 c hc with h9 | h9
      · exact a6 c h9
      · exact Or.inr h9
    · by_cases e : k' = k
      · rw [e] at hc; exact b6 c (a7 c hc)
      · exact b8 k' (by omega) g2 c hc
theorem dig (D : Nat → Nat) (hD : ∀ f, D f ≤ 2) : D 0 + 3 * D 1 + 9 * D 2 + 27 * D 3 < 81 ∧ ∀ f, f < 4 → dg (D 0 + 3 * D 1 + 9 * D 2 + 27 * D 3) f = D f := by
  have d0 := hD 0
  have d1 := hD 1
  have d2 := hD 2
  have d3 := hD 3
  refine ⟨by omega, fun f hf => ?_⟩
  have hf : f = 0 ∨ f = 1 ∨ f = 2 ∨ f = 3 := by omega
  unfold dg
  rcases hf with rfl | rfl | rfl | rfl
  · rw [show (3 : Nat) ^ 0 = 1 from rfl]; omega
  · rw [show (3 : Nat) ^ 1 = 3 from rfl]; omega
  · rw [show (3 : Nat) ^ 2 = 9 from rfl]; omega
  · rw [show (3 : Nat) ^ 3 = 27 from rfl]; omega
theorem TC_req {s : sS} {lo hi : Int} {c : Cd} (h : TC s lo hi c) : ∃ k, k < 81 ∧ reqK s lo hi k c := by
  rcases h with ⟨S, i, hi, hS, h⟩ | ⟨S, i, j, w, hi, hj, hSi, hSj, hl, hw, h⟩
  · obtain ⟨k1, k2⟩ := dig (fun f => if f = i then 2 else if S f = true then 1 else 0) (fun f => by show (if f = i then 2 else if S f = true then 1 else 0) ≤ 2; split <;> (try split) <;> omega)
    generalize (fun f => if f = i then 2 else if S f = true then 1 else 0) 0 + 3 * (fun f => if f = i then 2 else if S f = true then 1 else 0) 1 + 9 * (fun f => if f = i then 2 else if S f = true then 1 else 0) 2 + 27 * (fun f => if f = i then 2 else if S f = true then 1 else 0) 3 = k at k1 k2
    have e : ∀ f, f < 4 → mS k f = S f := fun f hf => by
      have k2 : dg k f = if f = i then 2 else if S f = true then 1 else 0 := k2 f hf
      unfold mS
      rw [k2]
      by_cases a : f = i
      · rw [if_pos a, a, hS]; rfl
      · rw [if_neg a]
        cases S f <;> rfl
    refine ⟨k, k1, Or.inl ⟨i, hi, (k2 i hi).trans (if_pos rfl), fun f hf hne => ?_, by rw [h]; exact oneC_congr (fun f hf => (e f hf).symm) i⟩⟩
    have k2 : dg k f = if f = i then 2 else if S f = true then 1 else 0 := k2 f hf
    rw [k2, if_neg hne]
    split <;> omega
  · obtain ⟨k1, k2⟩ := dig (fun f => if f = i ∨ f = j then 2 else if S f = true then 1 else 0) (fun f => by show (if f = i ∨ f = j then 2 else if S f = true then 1 else 0) ≤ 2; split <;> (try split) <;> omega)
    generalize (fun f => if f = i ∨ f = j then 2 else if S f = true then 1 else 0) 0 + 3 * (fun f => if f = i ∨ f = j then 2 else if S f = true then 1 else 0) 1 + 9 * (fun f => if f = i ∨ f = j then 2 else if S f = true then 1 else 0) 2 + 27 * (fun f => if f = i ∨ f = j then 2 else if S f = true then 1 else 0) 3 = k at k1 k2
    have e : ∀ f, f < 4 → mS k f = S f := fun f hf => by
      have k2 : dg k f = if f = i ∨ f = j then 2 else if S f = true then 1 else 0 := k2 f hf
      unfold mS
      rw [k2]
      by_cases a : f = i ∨ f = j
      · rw [if_pos a]
        rcases a with a | a
        · rw [a, hSi]; rfl
        · rw [a, hSj]; rfl
      · rw [if_neg a]
        cases S f <;> rfl
    refine ⟨k, k1, Or.inr ⟨i, j, w, hi, hj, fun e9 => ?_, (k2 i hi).trans (if_pos (Or.inl rfl)), (k2 j hj).trans (if_pos (Or.inr rfl)), fun f hf n1 n2 => ?_, hl, hw, by rw [h]; exact twoC_congr (fun f hf => (e f hf).symm) i j w⟩⟩
    · rw [e9] at hl; exact absurd hl (Int.lt_irrefl _)
    · have k2 : dg k f = if f = i ∨ f = j then 2 else if S f = true then 1 else 0 := k2 f hf
      rw [k2, if_neg (fun h9 => by omega)]
      split <;> omega
theorem M_mixes {N : Nat} {σ : xSt} {H : List sS} {s : sS} {tx : (Nat → Int32) × Nat} (h : RM σ (H, s, tx)) (hI : Inv N s) {p0 p1 : Int32} (h0 : bt p0 0 200) (h1 : bt p1 0 200) : ∃ σ' b, fX12_mixes p0 p1 σ = some (match b with | none => 0 | some _ => 1, σ') ∧ RM σ' (H, s, tx) ∧ fR σ σ' ∧ mBst σ' b ∧ Mn s p0.toInt p1.toInt (TC s p0.toInt p1.toInt) b := by
  have f1 : fR σ (xu σ 0 15 0) := (fR.refl σ).xu 0 15 _ (by decide)
  obtain ⟨σ', b, T', b1, b2, b3, b4, b5, b6, b7, b8⟩ := M_corners (tx := tx) (H := H) hI h0 h1 81 0 xFU (xu σ 0 15 0) (fun _ => False) rfl (by decide) (h.scr2 f1) ⟨none, by show xu σ 0 15 0 0 15 = 0; rw [xu_at, upd_at], fun c hc => absurd hc id⟩
  have up : ∀ c, TC s p0.toInt p1.toInt c → T' c := fun c hc => by
    obtain ⟨k, k1, k2⟩ := TC_req hc
    exact b8 k (Nat.zero_le _) k1 c k2
  refine ⟨σ', b, ?_, b2, f1.trans b3, b4, ?_⟩
  · unfold fX12_mixes
    rw [xp_t]
    exact b1
  · cases b with
    | none => exact fun c hc => b5 c (up c hc)
    | some b =>
      obtain ⟨g1, g2, g3⟩ := b5
      refine ⟨?_, g2, fun c hc => g3 c (up c hc)⟩
      rcases b7 b g1 with h9 | h9 | ⟨S, h9⟩
      · exact absurd h9 id
      · exact h9
      · rw [h9] at g2 ⊢; exact zer_in g2
theorem M_gcdLoop (σ : xSt) : ∀ (k x y n : Nat), y < 2 ^ k → 2 * k < n → x < 2147483648 → y < 2147483648 → fX12_common_c4 n (nI x) (nI y) σ = some (nI (Nat.gcd x y), σ) := by
  have done : ∀ x n : Nat, 0 < n → fX12_common_c4 n (nI x) (nI 0) σ = some (nI (Nat.gcd x 0), σ) := fun x n hn => by
    obtain ⟨n, rfl⟩ : ∃ z, n = z + 1 := ⟨n - 1, by omega⟩
    rw [fX12_common_c4_s, Nat.gcd_zero_right, if_pos (show nI 0 = 0 from rfl)]
  have step : ∀ x y n : Nat, ¬ y = 0 → x < 2147483648 → y < 2147483648 → fX12_common_c4 (n + 1) (nI x) (nI y) σ = fX12_common_c4 n (nI y) (nI (x % y)) σ := fun x y n hy hx hy2 => by
    have ny : ¬ nI y = 0 := fun h9 => hy ((nI_eq (by omega) (by decide)).mp (h9.trans (show (0 : Int32) = nI 0 from rfl)))
    rw [fX12_common_c4_s, if_neg ny, xnz_t ny, xl_t, nI_rem (by omega) (by omega) (by omega)]
  intro k
  induction k with
  | zero =>
    intro x y n hy hn hx hy2
    obtain rfl : y = 0 := by rw [Nat.pow_zero] at hy; omega
    exact done x n (by omega)
  | succ k ih =>
    intro x y n hy hn hx hy2
    by_cases c : y = 0
    · subst c
      exact done x n (by omega)
    · obtain ⟨n, rfl⟩ : ∃ z, n = z + 1 := ⟨n - 1, by omega⟩
      have l1 : x % y < y := Nat.mod_lt x (by omega)
      rw [step x y n c hx hy2, gcd_step x y]
      by_cases c2 : x % y = 0
      · rw [c2]
        exact done y n (by omega)
      · obtain ⟨n, rfl⟩ : ∃ z, n = z + 1 := ⟨n - 1, by omega⟩
        have l2 : y % (x % y) < x % y := Nat.mod_lt y (by omega)
        rw [step y (x % y) n c2 (by omega) (by omega), gcd_step y (x % y)]
        exact ih (x % y) (y % (x % y)) n (mod_half c2 hy (by omega)) (by omega) (by omega) (by omega)
theorem M_fraction {t b : Nat} (ht : t < 2147483648) (hb : 0 < b) (hb2 : b < 2147483648) (p2 : Int32) (σ : xSt) : fX12_fraction (nI t) (nI b) p2 σ = some (lowT t b p2, σ) := by
  have hg : 0 < Nat.gcd b t := Nat.gcd_pos_of_pos_left t hb
  have hg2 : Nat.gcd b t ≤ b := Nat.gcd_le_left t hb
  have ng : ¬ nI (Nat.gcd b t) = 0 := fun h9 => by
    have := (nI_eq (a := Nat.gcd b t) (b := 0) (by omega) (by decide)).mp (h9.trans (show (0 : Int32) = nI 0 from rfl))
    omega
  unfold fX12_fraction fX12_common lowT
  rw [M_gcdLoop σ 31 b t xFU (by omega) (by decide) (by omega) (by omega), xc2_t, xnz_t ng, xnz_t ng, nI_divN (by omega) (by omega) (by omega), nI_divN (by omega) (by omega) (by omega)]
  split <;> rfl
/-! both -/
theorem nI_ofZ {x : Int32} {z : Int} (h : x.toInt = z) (h0 : 0 ≤ z) : x = nI z.toNat := by
  have e : x = nI x.toNatClampNeg := bt_nI (a := 0) (b := x.toInt) ⟨by omega, Int.le_refl _⟩ (Int.le_refl 0)
  rw [← h]; exact e
theorem key_nn {N : Nat} {s : sS} {lo hi : Int} (hI : Inv N s) {c : Cd} (hf : feas s lo hi c) {k : Nat} (hk : k < 5) : 0 ≤ keyC s c k := by
  by_cases e : k = 0
  · subst e
    exact sumI_nn 4 (fun f hf4 => Int.mul_nonneg (hf.2.1 f hf4).1 (fl_b hI hf4).2.2.1)
  · have : keyC s c k = c.1 (k - 1) := if_neg e
    rw [this]; exact (hf.2.1 (k - 1) (by omega)).1
theorem key_ub {N : Nat} {s : sS} (hI : Inv N s) {c : Cd} (hc : cbw c) {k : Nat} (hk : k < 5) : keyC s c k ≤ 800000000 := by
  by_cases e : k = 0
  · subst e; exact (key0_b hI hc).2
  · have : keyC s c k = c.1 (k - 1) := if_neg e
    have := hc.2.2 (k - 1) (by omega)
    omega
theorem mix_val {N : Nat} {s : sS} {lo hi : Int} (hI : Inv N s) {b c : Cd} (hb : feas s lo hi b) (hc : feas s lo hi c) (he : eqC s b c) {k : Nat} (hk : k < 5) (p2 : Int32) : lowT (keyC s b k).toNat (100 * b.2).toNat p2 = lowT (keyC s c k).toNat (100 * c.2).toNat p2 := by
  have b0 := hb.1
  have c0 := hc.1
  have kb := key_nn hI hb hk
  have kc := key_nn hI hc hk
  have e := he k hk
  have e2 : (keyC s b k).toNat * (100 * c.2).toNat = (keyC s c k).toNat * (100 * b.2).toNat := by
    have q1 : (((keyC s b k).toNat * (100 * c.2).toNat : Nat) : Int) = keyC s b k * (100 * c.2) := by
      rw [Int.natCast_mul, Int.toNat_of_nonneg kb, Int.toNat_of_nonneg (by omega)]
    have q2 : (((keyC s c k).toNat * (100 * b.2).toNat : Nat) : Int) = keyC s c k * (100 * b.2) := by
      rw [Int.natCast_mul, Int.toNat_of_nonneg kc, Int.toNat_of_nonneg (by omega)]
    rw [Int.mul_left_comm] at q1 q2
    omega
  have f := frac_eq (a := (keyC s b k).toNat) (b := (100 * b.2).toNat) (c := (keyC s c k).toNat) (d := (100 * c.2).toNat) (by omega) (by omega) e2
  unfold lowT
  rw [f.1, f.2]
def bnd (p0 p1 : Int32) : Prop := (0 ≤ p0 ∧ p0 ≤ 200) ∧ (p0 ≤ p1 ∧ p1 ≤ 200)
theorem bnd_bt {p0 p1 : Int32} (h : bnd p0 p1) : bt p0 0 200 ∧ bt p1 0 200 := by
  obtain ⟨⟨a, b⟩, c, d⟩ := h
  rw [fa_le] at a b c d
  exact ⟨⟨a, b⟩, Int.le_trans a c, d⟩
theorem M_areBounds (p0 p1 : Int32) (σ : xSt) : (bnd p0 p1 → fX12_areBounds p0 p1 σ = some (1, σ)) ∧ (¬ bnd p0 p1 → fX12_areBounds p0 p1 σ = some (0, σ)) := by
  unfold fX12_areBounds bnd
  rw [M_in, xc2_t, x_i10]
  by_cases a : 0 ≤ p0 ∧ p0 ≤ 200
  · rw [if_pos a, M_in, xc2_t, x_i10]
    by_cases b : p0 ≤ p1 ∧ p1 ≤ 200
    · rw [if_pos b]; exact ⟨fun _ => rfl, fun h9 => absurd ⟨a, b⟩ h9⟩
    · rw [if_neg b]; exact ⟨fun h9 => absurd h9.2 b, fun _ => rfl⟩
  · rw [if_neg a]; exact ⟨fun h9 => absurd h9.1 a, fun _ => rfl⟩
theorem X_mixC0 (p0 p1 p2 : Int32) (σ : xSt) : (bnd p0 p1 → fX11_mixCost p0 p1 p2 σ = fX11_mixCost_c27 p0 p1 p2 1 σ) ∧ (¬ bnd p0 p1 → fX11_mixCost p0 p1 p2 σ = some (.inr 1, σ)) := by
  have e0 : fX11_mixCost_c26 p0 p1 p2 σ = some (.inr 1, σ) := by
    unfold fX11_mixCost_c26 fX11_mixCost_c27
    rw [X_needArgument0, xct_r]
  unfold fX11_mixCost bnd
  rw [X_isWithin, xc2_t, x_i10]
  by_cases a : 0 ≤ p0 ∧ p0 ≤ 200
  · rw [if_pos a, X_isWithin, xc2_t, x_i10]
    by_cases b : p0 ≤ p1 ∧ p1 ≤ 200
    · rw [if_pos b]; exact ⟨fun _ => rfl, fun h9 => absurd ⟨a, b⟩ h9⟩
    · rw [if_neg b]; exact ⟨fun h9 => absurd h9.2 b, fun _ => e0⟩
  · rw [if_neg a]; exact ⟨fun h9 => absurd h9.1 a, fun _ => e0⟩
theorem X_mixS0 (p0 p1 p2 p3 : Int32) (σ : xSt) : (bnd p0 p1 → 0 ≤ p2 ∧ p2 ≤ 3 → fX11_mixShare p0 p1 p2 p3 σ = fX11_mixShare_c36 p0 p1 p2 p3 1 σ) ∧ (¬ bnd p0 p1 → 0 ≤ p2 ∧ p2 ≤ 3 → fX11_mixShare p0 p1 p2 p3 σ = some (.inr 1, σ)) ∧ (¬ (0 ≤ p2 ∧ p2 ≤ 3) → fX11_mixShare p0 p1 p2 p3 σ = some (.inr 0, σ)) := by
  have e0 : fX11_mixShare_c35 p0 p1 p2 p3 σ = some (.inr 1, σ) := by
    unfold fX11_mixShare_c35 fX11_mixShare_c36
    rw [X_needArgument0, xct_r]
  unfold fX11_mixShare bnd
  rw [X_isWithin, xc2_t]
  by_cases c : 0 ≤ p2 ∧ p2 ≤ 3
  · rw [if_pos c, X_needIndex1, xct_l, X_isWithin, xc2_t, x_i10]
    by_cases a : 0 ≤ p0 ∧ p0 ≤ 200
    · rw [if_pos a, X_isWithin, xc2_t, x_i10]
      by_cases b : p0 ≤ p1 ∧ p1 ≤ 200
      · rw [if_pos b]; exact ⟨fun _ _ => rfl, fun h9 => absurd ⟨a, b⟩ h9, fun h9 => absurd c h9⟩
      · rw [if_neg b]; exact ⟨fun h9 => absurd h9.2 b, fun _ _ => e0, fun h9 => absurd c h9⟩
    · rw [if_neg a]; exact ⟨fun h9 => absurd h9.1 a, fun _ _ => e0, fun h9 => absurd c h9⟩
  · rw [if_neg c, X_needIndex0, xct_r]
    exact ⟨fun _ h9 => absurd h9 c, fun _ h9 => absurd h9 c, fun _ => rfl⟩
theorem XM_mixCost {N : Nat} {σ τ : xSt} {H : List sS} {s : sS} {tx : (Nat → Int32) × Nat} (hx : RX σ (H, s, tx)) (hm : RM τ (H, s, tx)) (hI : Inv N s) (p0 p1 p2 : Int32) : ∃ o, XR (fX11_mixCost p0 p1 p2 σ) (o, (H, s, tx)) ∧ MR (fX12_mixCost p0 p1 p2 τ) 9 1 9 2 (o, (H, s, tx)) ∧ ∀ k, o = .inr k → k = 1 ∨ k = 3 := by
  unfold fX12_mixCost
  by_cases g : bnd p0 p1
  · obtain ⟨t0, t1⟩ := bnd_bt g
    rw [(X_mixC0 p0 p1 p2 σ).1 g, (M_areBounds p0 p1 τ).1 g, xc2_t, M_can1, xc2_t, if_neg (show ¬ (1 : Int32) = 0 by decide)]
    obtain ⟨σ1, b, a1, a2, a3, a4⟩ := X_findMix hx hI t0 t1
    obtain ⟨τ1, c, b1, b2, b3, b4, b5⟩ := M_mixes (hm.raised 0) hI t0 t1
    unfold fX11_mixCost_c27
    rw [X_needArgument1, xct_l, a1, xc2_t, b1, xc2_t]
    cases b with
    | none =>
      cases c with
      | some c => exact absurd b5.2.1 (a4 c b5.1)
      | none =>
        refine ⟨.inr 3, ?_, ?_, fun k hk => by cases hk; decide⟩
        · show XR (xct (fX11_needElement 0 σ1) _) _
          rw [X_needElement0, xct_r]
          exact ⟨σ1, rfl, a2⟩
        · show MR (xc2 (fX12_can 0 2 τ1) _) _ _ _ _ _
          rw [M_can0, xc2_t, if_pos rfl]
          exact ⟨_, _, rfl, b2.raised 2, rfl, fun v hv => nomatch hv⟩
    | some b =>
      cases c with
      | none => exact absurd a4.2.1 (b5 b a4.1)
      | some c =>
        obtain ⟨x1, x2, x3⟩ := a3
        obtain ⟨y1, y2, y3⟩ := b4
        have kb := key_nn hI a4.2.1 (k := 0) (by decide)
        have kc := key_nn hI b5.2.1 (k := 0) (by decide)
        have cbb : cbw b := ⟨x1.1, x1.2.1, x1.2.2.1⟩
        have ub := key_ub hI cbb (k := 0) (by decide)
        have uc := key_ub hI y1 (k := 0) (by decide)
        have z1 := x1.1
        have z2 := x1.2.1
        have z3 := y1.1
        have z4 := y1.2.1
        refine ⟨.inl (lowT (keyC s b 0).toNat (100 * b.2).toNat p2), ?_, ?_, fun k hk => nomatch hk⟩
        · show XR (xct (fX11_needElement 1 σ1) _) _
          obtain ⟨r, e1, e2⟩ := X_costOf a2 hI (q0 := 33) (v := b.1) (fun f hf => ⟨x3 f hf, x1.2.2.1 f hf⟩) 4 0 xFU 0 rfl (by decide) rfl (by decide) (by decide)
          have e2 : r.toInt = keyC s b 0 := e2
          unfold fX3_costOf
          rw [X_needElement1, xct_l, show fX3_costOf_c4 33 xFU 0 0 σ1 = some (r, σ1) from e1, xc2_t, nI_ofZ e2 kb, nI_ofZ x2 (by omega), X_lowestTerm (by omega) (by omega) (by omega), xc2_t]
          exact ⟨σ1, rfl, a2⟩
        · show MR (xc2 (fX12_can 1 2 τ1) _) _ _ _ _ _
          obtain ⟨r, e1, e2⟩ := M_bestCost (b2.raised 0) hI (v := c.1) (fun f hf => ⟨by rw [xu_ne _ _ _ (by decide)]; exact y3 f hf, y1.2.2 f hf⟩) 4 0 xFU 0 rfl (by decide) rfl (by decide) (by decide)
          have e2 : r.toInt = keyC s c 0 := e2
          have e15 : xu τ1 0 0 0 0 15 = τ1 0 15 := by rw [xu_at, upd_ne _ _ (by decide)]
          have t15 : (100 * τ1 0 15).toInt = 100 * c.2 := by
            rw [i32_mul (by rw [y2]; show _ ≤ (100 : Int) * _; omega) (by rw [y2]; show (100 : Int) * _ < _; omega), y2]; rfl
          unfold fX12_bestCost
          rw [M_can1, xc2_t, if_neg (show ¬ (1 : Int32) = 0 by decide), show fX12_bestCost_c4 xFU 0 0 (xu τ1 0 0 0) = some (r, xu τ1 0 0 0) from e1, xc2_t, e15, nI_ofZ e2 kc, nI_ofZ t15 (by omega), M_fraction (by omega) (by omega) (by omega), xc2_t]
          refine ⟨_, _, rfl, b2.raised 0, rfl, fun v hv => ?_⟩
          rw [← mix_val hI a4.2.1 b5.2.1 (Mn_two a4 b5) (k := 0) (by decide) p2]
          exact (Sum.inl.inj hv).symm
  · rw [(X_mixC0 p0 p1 p2 σ).2 g, (M_areBounds p0 p1 τ).2 g, xc2_t, M_can0, xc2_t, if_pos rfl]
    exact ⟨.inr 1, ⟨σ, rfl, hx⟩, ⟨_, _, rfl, hm.raised 1, rfl, fun v hv => nomatch hv⟩, fun k hk => by cases hk; decide⟩
theorem XM_mixShare {N : Nat} {σ τ : xSt} {H : List sS} {s : sS} {tx : (Nat → Int32) × Nat} (hx : RX σ (H, s, tx)) (hm : RM τ (H, s, tx)) (hI : Inv N s) (p0 p1 p2 p3 : Int32) : ∃ o, XR (fX11_mixShare p0 p1 p2 p3 σ) (o, (H, s, tx)) ∧ MR (fX12_mixShare p0 p1 p2 p3 τ) 1 2 9 3 (o, (H, s, tx)) ∧ ∀ k, o = .inr k → k = 0 ∨ k = 1 ∨ k = 3 := by
  have hF : fX12_isFlour p2 τ = some (if 0 ≤ p2 ∧ p2 ≤ 3 then 1 else 0, τ) := by
    unfold fX12_isFlour
    rw [M_in, xc2_t, xb_t x10b]
  unfold fX12_mixShare
  rw [hF, xc2_t]
  by_cases gf : 0 ≤ p2 ∧ p2 ≤ 3
  · rw [if_pos gf, M_can1, xc2_t, if_neg (show ¬ (1 : Int32) = 0 by decide)]
    have hm := hm.raised 0
    generalize hτ : xu τ 0 0 0 = τ0 at hm ⊢
    obtain ⟨f, f0, f3, ef⟩ := x_rng (a := 0) (b := 3) rfl (by decide) (by decide) (by decide) gf
    by_cases g : bnd p0 p1
    · obtain ⟨t0, t1⟩ := bnd_bt g
      rw [(X_mixS0 p0 p1 p2 p3 σ).1 g gf, (M_areBounds p0 p1 τ0).1 g, xc2_t, M_can1, xc2_t, if_neg (show ¬ (1 : Int32) = 0 by decide)]
      obtain ⟨σ1, b, a1, a2, a3, a4⟩ := X_findMix hx hI t0 t1
      obtain ⟨τ1, c, b1, b2, b3, b4, b5⟩ := M_mixes (hm.raised 0) hI t0 t1
      unfold fX11_mixShare_c36
      rw [X_needArgument1, xct_l, a1, xc2_t, b1, xc2_t]
      cases b with
      | none =>
        cases c with
        | some c => exact absurd b5.2.1 (a4 c b5.1)
        | none =>
          refine ⟨.inr 3, ?_, ?_, fun k hk => by cases hk; decide⟩
          · show XR (xct (fX11_needElement 0 σ1) _) _
            rw [X_needElement0, xct_r]
            exact ⟨σ1, rfl, a2⟩
          · show MR (xc2 (fX12_can 0 3 τ1) _) _ _ _ _ _
            rw [M_can0, xc2_t, if_pos rfl]
            exact ⟨_, _, rfl, b2.raised 3, rfl, fun v hv => nomatch hv⟩
      | some b =>
        cases c with
        | none => exact absurd a4.2.1 (b5 b a4.1)
        | some c =>
          obtain ⟨x1, x2, x3⟩ := a3
          obtain ⟨y1, y2, y3⟩ := b4
          have kb : 0 ≤ b.1 f := key_nn hI a4.2.1 (k := f + 1) (by omega)
          have kc : 0 ≤ c.1 f := key_nn hI b5.2.1 (k := f + 1) (by omega)
          have cbb : cbw b := ⟨x1.1, x1.2.1, x1.2.2.1⟩
          have ub : b.1 f ≤ 800000000 := key_ub hI cbb (k := f + 1) (by omega)
          have uc : c.1 f ≤ 800000000 := key_ub hI y1 (k := f + 1) (by omega)
          have z1 := x1.1
          have z2 := x1.2.1
          have z3 := y1.1
          have z4 := y1.2.1
          have mv : lowT (b.1 f).toNat (100 * b.2).toNat p3 = lowT (c.1 f).toNat (100 * c.2).toNat p3 := mix_val hI a4.2.1 b5.2.1 (Mn_two a4 b5) (k := f + 1) (by omega) p3
          refine ⟨.inl (lowT (b.1 f).toNat (100 * b.2).toNat p3), ?_, ?_, fun k hk => nomatch hk⟩
          · show XR (xct (fX11_needElement 1 σ1) _) _
            rw [X_needElement1, xct_l, ef, xr_n (by omega) (by decide), nI_ofZ (x3 f (by omega)) kb, nI_ofZ x2 (by omega), X_lowestTerm (by omega) (by omega) (by omega), xc2_t]
            exact ⟨σ1, rfl, a2⟩
          · show MR (xc2 (fX12_can 1 3 τ1) _) _ _ _ _ _
            have e15 : xu τ1 0 0 0 0 15 = τ1 0 15 := by rw [xu_at, upd_ne _ _ (by decide)]
            have t15 : (100 * τ1 0 15).toInt = 100 * c.2 := by
              rw [i32_mul (by rw [y2]; show _ ≤ (100 : Int) * _; omega) (by rw [y2]; show (100 : Int) * _ < _; omega), y2]; rfl
            rw [M_can1, xc2_t, if_neg (show ¬ (1 : Int32) = 0 by decide), ef, xr_n (by omega) (by decide), xu_ne _ _ _ (by decide), e15, nI_ofZ (y3 f (by omega)) kc, nI_ofZ t15 (by omega), M_fraction (by omega) (by omega) (by omega), xc2_t]
            refine ⟨_, _, rfl, b2.raised 0, rfl, fun v hv => ?_⟩
            rw [← mv]
            exact (Sum.inl.inj hv).symm
    · rw [(X_mixS0 p0 p1 p2 p3 σ).2.1 g gf, (M_areBounds p0 p1 τ0).2 g, xc2_t, M_can0, xc2_t, if_pos rfl]
      exact ⟨.inr 1, ⟨σ, rfl, hx⟩, ⟨_, _, rfl, hm.raised 2, rfl, fun v hv => nomatch hv⟩, fun k hk => by cases hk; decide⟩
  · rw [if_neg gf, (X_mixS0 p0 p1 p2 p3 σ).2.2 gf, M_can0, xc2_t, if_pos rfl]
    exact ⟨.inr 0, ⟨σ, rfl, hx⟩, ⟨_, _, rfl, hm.raised 1, rfl, fun v hv => nomatch hv⟩, fun k hk => by cases hk; decide⟩
