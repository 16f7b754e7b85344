/-! ===== TYPING A WHOLE TEXT; HOW A TEXT IS BUILT ===== -/
theorem P_typeL {t : Nat → Nat} {n : Nat} (hn : n ≤ 80) (ht : ∀ j, j < n → 32 ≤ t j ∧ t j ≤ 126) {H : List sS} {s : sS} : ∀ (d k f : Nat) (σ : xSt) (tx : (Nat → Int32) × Nat), n ≤ k + 8 * d → d < f → k < 200 → RX σ (H, s, tx) → tx.2 = (if k ≤ n then k else n) → (∀ q, q < tx.2 → tx.1 q = nI (t q)) → ∃ σ' tx', fL_type_c2 n t f (nI k) σ = some (0, σ') ∧ RX σ' (H, s, tx') ∧ kL σ σ' ∧ tx'.2 = n ∧ ∀ q, q < n → tx'.1 q = nI (t q) := by
  intro d
  induction d with
  | zero =>
    intro k f σ tx h1 h2 h3 h4 h5 h6
    match f, h2 with
    | f + 1, _ =>
      have e : tx.2 = n := by split at h5 <;> omega
      refine ⟨σ, tx, ?_, h4, kL.rf, e, fun q hq => h6 q (by omega)⟩
      rw [fL_type_c2_s, if_pos (nI_le (by omega) (by omega))]
  | succ d ih =>
    intro k f σ tx h1 h2 h3 h4 h5 h6
    match f, h2 with
    | f + 1, h2 =>
      by_cases c : n ≤ k
      · have e : tx.2 = n := by split at h5 <;> omega
        refine ⟨σ, tx, ?_, h4, kL.rf, e, fun q hq => h6 q (by omega)⟩
        rw [fL_type_c2_s, if_pos (nI_le c (by omega))]
      · have e : tx.2 = k := by split at h5 <;> omega
        have hW : (if k + 8 ≤ n then 8 else n - k) ≤ 8 ∧ k + (if k + 8 ≤ n then 8 else n - k) ≤ n ∧ (k + 8 ≤ n → (if k + 8 ≤ n then 8 else n - k) = 8) ∧ (¬ k + 8 ≤ n → (if k + 8 ≤ n then 8 else n - k) = n - k) := by
          split <;> omega
        have hI := P_typeI hn ht (k2 := fL_type_c2 n t f) (σ := σ) (k := k) (by omega) (if k + 8 ≤ n then 8 else n - k) 0 xFU (by omega) (by have h9 : xFU = 8192 := rfl; omega)
        generalize (if k + 8 ≤ n then 8 else n - k) = W at hW hI
        obtain ⟨σ1, tx1, q1, q2, q3, q4, q5, r, q6⟩ := P_type1 h4 (t := t) (k := k) (w := W) hW.1 (fun j hj => ht (k + j) (by omega)) (by omega)
        obtain ⟨σ2, tx2, p1, p2, p3, p4, p5⟩ := ih (k + 8) f σ1 tx1 (by omega) (by omega) (by omega) q1 (by
          rw [q3, e]
          by_cases c8 : k + 8 ≤ n
          · rw [if_pos c8, hW.2.2.1 c8]
          · rw [if_neg c8, hW.2.2.2 c8]; omega) (fun q hq => by
          by_cases cq : q < tx.2
          · rw [q4 q cq]; exact h6 q cq
          · have h9 := q5 (q - tx.2) (by omega)
            rw [show tx.2 + (q - tx.2) = q by omega, show k + (q - tx.2) = q by omega] at h9
            exact h9)
        refine ⟨σ2, tx2, ?_, p2, q2.tr p3, p4, p5⟩
        rw [fL_type_c2_s, if_neg (nI_ge (by omega) (by omega))]
        have hI : fL_type_c15 n t (fL_type_c2 n t f) xFU (nI k) 0 (nI k) σ = _ := hI
        rw [hI]
        unfold fL_type_c52
        rw [q6]
        have e8 : nI k + 8 = nI (k + 8) := nI_add k 8
        rw [e8]
        exact p1
theorem P_type {t : Nat → Nat} {n : Nat} (hn : n ≤ 48) (ht : ∀ j, j < n → 32 ≤ t j ∧ t j ≤ 126) {H : List sS} {s : sS} {σ : xSt} {T : Nat → Int32} (h : RX σ (H, s, T, 0)) : ∃ σ' tx', fL_type n t σ = some (0, σ') ∧ RX σ' (H, s, tx') ∧ kL σ σ' ∧ tx'.2 = n ∧ ∀ q, q < n → tx'.1 q = nI (t q) :=
  P_typeL (by omega) ht 6 0 8 σ (T, 0) (by omega) (by decide) (by decide) h (by rw [if_pos (Nat.zero_le n)]) (fun q hq => absurd hq (Nat.not_lt_zero q))
theorem dec0 {v : Nat} (h : v < 10) : sb_dg v = 1 ∧ sb_dec v 0 = 48 + v := by
  refine ⟨sbD1 h, ?_⟩
  have h1 : sb_dec v 0 = 48 + v / 10 ^ (sb_dg v - 1 - 0) % 10 := rfl
  rw [h1, sbD1 h]
  show 48 + v / 1 % 10 = _
  rw [Nat.div_one]
  omega
theorem dec1 {v : Nat} (h : 10 ≤ v) (h2 : v < 100) : sb_dg v = 2 ∧ sb_dec v 0 = 48 + v / 10 ∧ sb_dec v 1 = 48 + v % 10 := by
  refine ⟨sbD2 h h2, ?_, ?_⟩
  · have h1 : sb_dec v 0 = 48 + v / 10 ^ (sb_dg v - 1 - 0) % 10 := rfl
    rw [h1, sbD2 h h2]
    show 48 + v / 10 % 10 = _
    omega
  · have h1 : sb_dec v 1 = 48 + v / 10 ^ (sb_dg v - 1 - 1) % 10 := rfl
    rw [h1, sbD2 h h2]
    show 48 + v / 1 % 10 = _
    rw [Nat.div_one]
/-- a separator, a good, a colon, an amount -/
def cat4 (t : Nat → Nat) (n i g v : Nat) : Nat → Nat := sb_cat (sb_cat (sb_cat (sb_cat t n (skT i)) (n + skW i) (sb_dec g)) (n + skW i + 1) (fun _ => 58)) (n + skW i + 1 + 1) (sb_dec v)
theorem cat4_lo {t : Nat → Nat} {n i g v j : Nat} (h : j < n) : cat4 t n i g v j = t j := by
  unfold cat4
  rw [sb_cat_lo (by omega), sb_cat_lo (by omega), sb_cat_lo (by omega), sb_cat_lo h]
theorem cat4_en {t : Nat → Nat} {n i g v : Nat} (hi : i < 2) (hg : g < 10) (hv : v < 100) : enAt (cat4 t n i g v) (n + i) g v ∧ n + skW i + 1 + 1 + sb_dg v = n + i + enL v ∧ (i = 1 → cat4 t n i g v n = 44) := by
  have hw : skW i = i + 1 := by rcases (show i = 0 ∨ i = 1 by omega) with rfl | rfl <;> rfl
  have a0 : cat4 t n i g v (n + i) = 32 := by
    unfold cat4
    rw [sb_cat_lo (by omega), sb_cat_lo (by omega), sb_cat_lo (by omega), sb_cat_hi]
    rcases (show i = 0 ∨ i = 1 by omega) with rfl | rfl <;> rfl
  have a1 : cat4 t n i g v (n + i + 1) = 48 + g := by
    unfold cat4
    rw [sb_cat_lo (by omega), sb_cat_lo (by omega), show n + i + 1 = (n + skW i) + 0 by omega, sb_cat_hi]
    exact (dec0 hg).2
  have a2 : cat4 t n i g v (n + i + 2) = 58 := by
    unfold cat4
    rw [sb_cat_lo (by omega), show n + i + 2 = (n + skW i + 1) + 0 by omega, sb_cat_hi]
  have a3 : ∀ j, cat4 t n i g v (n + i + 3 + j) = sb_dec v j := fun j => by
    unfold cat4
    rw [show n + i + 3 + j = (n + skW i + 1 + 1) + j by omega, sb_cat_hi]
  refine ⟨⟨a0, a1, a2, fun h => ?_, fun h => ⟨?_, ?_⟩⟩, ?_, fun h => ?_⟩
  · exact (a3 0).trans (dec0 h).2
  · exact (a3 0).trans (dec1 h hv).2.1
  · exact (a3 1).trans (dec1 h hv).2.2
  · unfold enL
    by_cases c : v < 10
    · rw [if_pos c, (dec0 c).1]; omega
    · rw [if_neg c, (dec1 (by omega) hv).1]; omega
  · subst h
    unfold cat4
    rw [sb_cat_lo (by omega), sb_cat_lo (by omega), sb_cat_lo (by omega)]
    exact (sb_cat_hi (t := t) (n := n) (j := 0)).trans rfl
/-- every letter of an entry may be typed -/
theorem enAt_ok {t : Nat → Nat} {p g v : Nat} (h : enAt t p g v) (hg : g < 10) (hv : v < 100) : ∀ j, p ≤ j → j < p + enL v → 32 ≤ t j ∧ t j ≤ 126 := by
  intro j h1 h2
  obtain ⟨a0, a1, a2, a3, a4⟩ := h
  have be := enL_b v
  rcases (show j = p ∨ j = p + 1 ∨ j = p + 2 ∨ j = p + 3 ∨ j = p + 4 by omega) with rfl | rfl | rfl | rfl | rfl
  · omega
  · omega
  · omega
  · by_cases c : v < 10
    · have := a3 c; omega
    · have := (a4 (by omega)).1; omega
  · have c : ¬ v < 10 := fun c => by
      have : enL v = 4 := if_pos c
      omega
    have := (a4 (by omega)).2
    omega
/-- the entries of the goods before k -/
def esN (pv : Nat → Nat) : Nat → List (Nat × Nat)
  | 0 => []
  | k + 1 => if pv k = 0 then esN pv k else esN pv k ++ [(k, pv k)]
def sN (pv : Nat → Nat) : Nat → Nat
  | 0 => 0
  | k + 1 => sN pv k + pv k
theorem okE_snoc {g v : Nat} (hg : g ≤ 7) (hv : v < 100) : ∀ (es : List (Nat × Nat)) (b : Nat), okE b es → (∀ e ∈ es, e.1 < g) → b ≤ g → okE b (es ++ [(g, v)])
  | [], b, _, _, hb => ⟨hb, hg, hv, trivial⟩
  | e :: es, b, h, hl, hb => ⟨h.1, h.2.1, h.2.2.1, okE_snoc hg hv es _ h.2.2.2 (fun x hx => hl x (List.mem_cons_of_mem _ hx)) (hl e List.mem_cons_self)⟩
theorem prS_snoc (e : Nat × Nat) : ∀ (es : List (Nat × Nat)) (P : Nat → Int32), prS (es ++ [e]) P = upd (prS es P) e.1 (nI e.2)
  | [], _ => rfl
  | x :: es, P => prS_snoc e es _
theorem esN_lt {pv : Nat → Nat} : ∀ k, ∀ e ∈ esN pv k, e.1 < k
  | 0, e, h => absurd h List.not_mem_nil
  | k + 1, e, h => by
    unfold esN at h
    split at h
    · have := esN_lt k e h; omega
    · rcases List.mem_append.mp h with h | h
      · have := esN_lt k e h; omega
      · rw [List.mem_singleton] at h
        subst h
        show k < k + 1
        omega
theorem esN_ok {pv : Nat → Nat} (hv : ∀ j, pv j < 100) : ∀ k, k ≤ 8 → okE 0 (esN pv k)
  | 0, _ => trivial
  | k + 1, hk => by
    unfold esN
    split
    · exact esN_ok hv k (by omega)
    · exact okE_snoc (by omega) (hv k) _ _ (esN_ok hv k (by omega)) (fun e he => esN_lt k e he) (Nat.zero_le k)
theorem esN_pr {pv : Nat → Nat} : ∀ k j, prS (esN pv k) (fun _ => 0) j = if j < k then nI (pv j) else 0
  | 0, j => by rw [if_neg (Nat.not_lt_zero j)]; rfl
  | k + 1, j => by
    unfold esN
    by_cases c : pv k = 0
    · rw [if_pos c, esN_pr k j]
      by_cases c2 : j < k
      · rw [if_pos c2, if_pos (by omega)]
      · rw [if_neg c2]
        by_cases c3 : j < k + 1
        · rw [if_pos c3, show j = k by omega, c]; rfl
        · rw [if_neg c3]
    · rw [if_neg c, prS_snoc]
      show upd (prS (esN pv k) (fun _ => 0)) k (nI (pv k)) j = _
      by_cases c2 : j = k
      · rw [c2, pk_us, if_pos (by omega)]
      · rw [pk_un c2, esN_pr k j]
        by_cases c3 : j < k
        · rw [if_pos c3, if_pos (by omega)]
        · rw [if_neg c3, if_neg (by omega)]
theorem esN_len {pv : Nat → Nat} : ∀ k, (esN pv k).length ≤ k
  | 0 => Nat.le_refl 0
  | k + 1 => by
    unfold esN
    have := esN_len (pv := pv) k
    split
    · omega
    · rw [List.length_append]
      show _ + 1 ≤ _
      omega
/-- what the loop over the goods keeps -/
def IM (k : Nat) (pv : Nat → Nat) (n : Nat) (t : Nat → Nat) : Prop := TX t n (esN pv k) ∧ (n + 1 ≤ 6 * k ∨ n = 0) ∧ (∀ j, j < n → 32 ≤ t j ∧ t j ≤ 126) ∧ (esN pv k = [] ↔ n = 0)
theorem IM_skip {k n : Nat} {pv t : Nat → Nat} (h : IM k pv n t) (hv : pv k = 0) : IM (k + 1) pv n t := by
  have e : esN pv (k + 1) = esN pv k := if_pos hv
  unfold IM
  rw [e]
  have h2 := h.2.1
  exact ⟨h.1, by omega, h.2.2.1, h.2.2.2⟩
theorem IM_add {k n : Nat} {pv t : Nat → Nat} (h : IM k pv n t) (hv0 : pv k ≠ 0) (hv : pv k < 100) (hk : k < 8) {i : Nat} (hi : i = if n = 0 then 0 else 1) : IM (k + 1) pv (n + i + enL (pv k)) (cat4 t n i k (pv k)) := by
  have hi2 : i < 2 := by split at hi <;> omega
  obtain ⟨c1, c2, c3⟩ := cat4_en (t := t) (n := n) (i := i) (g := k) (v := pv k) hi2 (by omega) hv
  have be := enL_b (pv k)
  have e : esN pv (k + 1) = esN pv k ++ [(k, pv k)] := if_neg hv0
  obtain ⟨h1, h2, h3, h4⟩ := h
  unfold IM
  rw [e]
  have hne : ¬ (esN pv k ++ [(k, pv k)] = []) := by simp
  by_cases c : n = 0
  · have hi0 : i = 0 := by rw [hi, if_pos c]
    subst hi0
    subst c
    rw [h4.mpr rfl]
    refine ⟨?_, by omega, fun j hj => ?_, ⟨fun z => by simp at z, fun z => by omega⟩⟩
    · show TX _ (0 + 0 + enL (pv k)) [(k, pv k)]
      rw [show 0 + 0 + enL (pv k) = enL (pv k) by omega]
      exact TX_one c1
    · exact enAt_ok c1 (by omega) hv j (by omega) (by omega)
  · have hi1 : i = 1 := by rw [hi, if_neg c]
    subst hi1
    refine ⟨TX_snoc h1 (fun z => c (h4.mp z)) (fun j hj => cat4_lo hj) (c3 rfl) c1, by omega, fun j hj => ?_, ⟨fun z => absurd z hne, fun z => by omega⟩⟩
    by_cases cj : j < n
    · rw [cat4_lo cj]; exact h3 j cj
    · by_cases cj2 : j = n
      · rw [cj2, c3 rfl]; omega
      · exact enAt_ok c1 (by omega) hv j (by omega) (by omega)
