/-! isPlanned: whether there are more doughs than places -/
theorem xrow_none {β : Type} {bs : Nat → Option (Int32 × Int32)} {n i : Nat} {A : Option β} {B : Int32 → Int32 → Option β} (h : i < n) (hm : n < 2147483648) (e : bs i = none) : xrow bs n (nI i) A B = A := by
  unfold xrow
  rw [xin_n h hm, if_pos rfl, nI_clamp (by omega), e]
theorem xrow_some {β : Type} {bs : Nat → Option (Int32 × Int32)} {n i : Nat} {A : Option β} {B : Int32 → Int32 → Option β} {x y : Int32} (h : i < n) (hm : n < 2147483648) (e : bs i = some (x, y)) : xrow bs n (nI i) A B = B x y := by
  unfold xrow
  rw [xin_n h hm, if_pos rfl, nI_clamp (by omega), e]
theorem cnB_all (p : Nat → Bool) : ∀ n, cnB p n ≤ n
  | 0 => Nat.le_refl _
  | n + 1 => by
    have ih := cnB_all p n
    unfold cnB
    split <;> omega
theorem cnB_t {p : Nat → Bool} {n : Nat} (h : p n = true) : cnB p (n + 1) = cnB p n + 1 := by
  show cnB p n + (if p n = true then 1 else 0) = _
  rw [if_pos h]
theorem cnB_f {p : Nat → Bool} {n : Nat} (h : p n = false) : cnB p (n + 1) = cnB p n := by
  have e : (if p n = true then 1 else 0) = 0 := if_neg (by rw [h]; decide)
  show cnB p n + (if p n = true then 1 else 0) = _
  rw [e]
  try rfl
theorem pbd_none {s : sS} {k : Nat} (h : ¬ plF s k ≤ plL s k) : pbd s k = none := if_neg h
theorem pbd_some {N : Nat} {s : sS} (hI : Inv N s) {k : Nat} (hk : k < cD s) (h : plF s k ≤ plL s k) : ∃ f l : Nat, pbd s k = some (nI f, nI l) ∧ plF s k = (f : Int) ∧ plL s k = (l : Int) ∧ f ≤ 200000 ∧ l ≤ 1000000 := by
  have b := pl_b hI hk
  have o := hI.oven.1
  unfold bt at o
  refine ⟨(plF s k).toNat, (plL s k).toNat, ?_, by omega, by omega, by omega, by omega⟩
  unfold pbd
  rw [if_pos h]
  have e1 : Int32.ofInt (plF s k) = nI (plF s k).toNat := nI_Z (by omega) (by omega)
  have e2 : Int32.ofInt (plL s k) = nI (plL s k).toNat := nI_Z (by omega) (by omega)
  rw [e1, e2]
def rdN (s : sS) (a b : Nat) : Nat := (plL s b).toNat / 10 + 1 - ((plF s a).toNat + 9) / 10
def crN (s : sS) (a b : Nat) : Nat → Nat := cnB (tgB (plF s) (plL s) (plF s a) (plL s b))
def crd (s : sS) (a b : Nat) : Prop := (s 4).toInt.toNat * rdN s a b < crN s a b (cD s)
theorem rd_32 {y x : Nat} (hy : y < 2000000) (hx : x < 2000000) : (if 0 < (nI y - nI x) + 1 then (nI y - nI x) + 1 else 0) = nI (y + 1 - x) := by
  by_cases c : x ≤ y
  · rw [nI_subeq c, ← nI_succ, if_pos (show (0 : Int32) < nI (y - x + 1) from nI_lt (a := 0) (by omega) (by omega)), show y + 1 - x = y - x + 1 by omega]
  · have h1 : (nI y - nI x).toInt = (y : Int) - (x : Int) := by
      have e1 : (nI y).toInt = (y : Int) := nI_toInt (by omega)
      have e2 : (nI x).toInt = (x : Int) := nI_toInt (by omega)
      rw [i32_sub] <;> rw [e1, e2] <;> omega
    have h2 : (nI y - nI x + 1).toInt = (y : Int) - (x : Int) + 1 := by
      have e3 : (1 : Int32).toInt = 1 := by decide
      rw [i32_add] <;> rw [h1, e3] <;> omega
    rw [if_neg (fun h9 => by
      rw [fa_lt, h2, show (0 : Int32).toInt = 0 from rfl] at h9
      omega), show y + 1 - x = 0 by omega]
    rfl
/-- the doughs of the plan, as the law keeps them -/
def bsP (s : sS) (bs : Nat → Option (Int32 × Int32)) : Prop := ∀ k, k < cD s → bs k = pbd s k
theorem P_c41 {N : Nat} {s : sS} {bs : Nat → Option (Int32 × Int32)} {σ : xSt} (hI : Inv N s) (hb : bsP s bs) (l3 : σ 52 3 = nI (cD s)) (l4 : σ 52 4 = s 4) (k2 : Int32 → xSt → Option (Int32 × xSt)) (k12 : Int32 → Int32 → xSt → Option (Int32 × xSt)) {a b : Nat} (ha : a < cD s) (hbD : b < cD s) (pa : plF s a ≤ plL s a) (pb : plF s b ≤ plL s b) : ∀ (d i n : Nat), i + d = cD s → d < n → (crd s a b ∧ fL_isCrowded_c41 (cD s) bs k2 k12 n (nI a) (nI b) (nI (crN s a b i)) (nI i) σ = some (1, σ)) ∨ (¬ crd s a b ∧ fL_isCrowded_c41 (cD s) bs k2 k12 n (nI a) (nI b) (nI (crN s a b i)) (nI i) σ = k12 (nI a) (nI (b + 1)) σ) := by
  have h20 : cD s ≤ 20 := hI.caps.2.1
  obtain ⟨fa, la, ea, fa1, la1, fa2, la2⟩ := pbd_some hI ha pa
  obtain ⟨fb, lb, eb, fb1, lb1, fb2, lb2⟩ := pbd_some hI hbD pb
  have ea : bs a = some (nI fa, nI la) := (hb a ha).trans ea
  have eb : bs b = some (nI fb, nI lb) := (hb b hbD).trans eb
  intro d
  induction d with
  | zero =>
    intro i n hi hn
    match n, hn with
    | n + 1, _ =>
      obtain rfl : i = cD s := by omega
      have o4 := hI.oven.2.2.2.2
      obtain ⟨m, z4, m4⟩ : ∃ m : Nat, s 4 = nI m ∧ m ≤ 4 := ⟨(s 4).toNatClampNeg, bt_nI o4 (by decide), by have := bt_cl o4 (by decide); omega⟩
      have z4' : (s 4).toInt.toNat = m := by
        rw [z4, nI_toInt (by omega)]
        rfl
      have cr : crN s a b (cD s) ≤ 20 := Nat.le_trans (cnB_all _ _) h20
      have er : rdN s a b = lb / 10 + 1 - (fa + 9) / 10 := by
        unfold rdN
        rw [lb1, fa1]
        rfl
      have e10 : (10 : Int32) = nI 10 := rfl
      have e9 : (9 : Int32) = nI 9 := rfl
      rw [fL_isCrowded_c41_s, l3, if_pos (nI_le (Nat.le_refl _) (by omega)), xrow_some hbD (by omega) eb, xrow_some ha (by omega) ea, xl_t, e10, e9, nI_add, nI_divN (by omega) (by omega) (by decide), nI_divN (by omega) (by omega) (by decide), rd_32 (by omega) (by omega), l4, z4, nI_mul]
      unfold crd
      rw [z4', er]
      have hx : m * (lb / 10 + 1 - (fa + 9) / 10) ≤ 4 * 100001 := Nat.mul_le_mul m4 (by omega)
      generalize m * (lb / 10 + 1 - (fa + 9) / 10) = z at hx ⊢
      by_cases c : z < crN s a b (cD s)
      · refine Or.inl ⟨c, ?_⟩
        rw [if_neg (nI_ge c (by omega))]
      · refine Or.inr ⟨c, ?_⟩
        rw [if_pos (nI_le (by omega) (by omega)), xl_t, ← nI_succ]
  | succ d ih =>
    intro i n hi hn
    match n, hn with
    | n + 1, hn =>
      have ih := ih (i + 1) n (by omega) (by omega)
      rw [fL_isCrowded_c41_s, l3, if_neg (nI_ge (by omega) (by omega))]
      by_cases pi : plF s i ≤ plL s i
      · obtain ⟨fi, li, ei, fi1, li1, fi2, li2⟩ := pbd_some hI (k := i) (by omega) pi
        have ei : bs i = some (nI fi, nI li) := (hb i (by omega)).trans ei
        rw [xrow_some (by omega) (by omega) ei, xrow_some (by omega) (by omega) ei, xrow_some ha (by omega) ea]
        by_cases c1 : fi < fa
        · have e : crN s a b (i + 1) = crN s a b i := cnB_f (decide_eq_false (fun h9 => by
              omega))
          rw [if_pos (nI_lt c1 (by omega)), xl_t, ← nI_succ]
          rw [e] at ih
          exact ih
        · rw [if_neg (nI_nlt (by omega) (by omega)), xrow_some (by omega) (by omega) ei, xrow_some hbD (by omega) eb]
          by_cases c2 : lb < li
          · have e : crN s a b (i + 1) = crN s a b i := cnB_f (decide_eq_false (fun h9 => by
              omega))
            rw [if_pos (nI_lt c2 (by omega)), xl_t, ← nI_succ]
            rw [e] at ih
            exact ih
          · have e : crN s a b (i + 1) = crN s a b i + 1 := cnB_t (decide_eq_true ⟨pi, by omega, by omega⟩)
            rw [if_neg (nI_nlt (by omega) (by omega)), xl_t, xl_t, ← nI_succ, ← nI_succ]
            rw [e] at ih
            exact ih
      · have ei : bs i = none := (hb i (by omega)).trans (pbd_none pi)
        have e : crN s a b (i + 1) = crN s a b i := cnB_f (decide_eq_false (fun h9 => pi h9.1))
        rw [xrow_none (by omega) (by omega) ei, xl_t, ← nI_succ]
        rw [e] at ih
        exact ih
theorem P_c12 {N : Nat} {s : sS} {bs : Nat → Option (Int32 × Int32)} {σ : xSt} (hI : Inv N s) (hb : bsP s bs) (l3 : σ 52 3 = nI (cD s)) (l4 : σ 52 4 = s 4) (k2 : Int32 → xSt → Option (Int32 × xSt)) {a : Nat} (ha : a < cD s) : ∀ (d b n : Nat), b + d = cD s → d < n → fL_isCrowded_c12 (cD s) bs k2 n (nI a) (nI b) σ = some (1, σ) ∨ ((∀ b', b ≤ b' → b' < cD s → plF s a ≤ plL s a → plF s b' ≤ plL s b' → ¬ crd s a b') ∧ fL_isCrowded_c12 (cD s) bs k2 n (nI a) (nI b) σ = k2 (nI (a + 1)) σ) := by
  have h20 : cD s ≤ 20 := hI.caps.2.1
  intro d
  induction d with
  | zero =>
    intro b n hi hn
    match n, hn with
    | n + 1, _ =>
      refine Or.inr ⟨fun b' h1 h2 => by omega, ?_⟩
      rw [fL_isCrowded_c12_s, l3, if_pos (nI_le (by omega) (by omega)), xl_t, ← nI_succ]
  | succ d ih =>
    intro b n hi hn
    match n, hn with
    | n + 1, hn =>
      have ih := ih (b + 1) n (by omega) (by omega)
      have step : ∀ v : Option (Int32 × xSt), v = fL_isCrowded_c12 (cD s) bs k2 n (nI a) (nI (b + 1)) σ → (plF s a ≤ plL s a → plF s b ≤ plL s b → ¬ crd s a b) → v = some (1, σ) ∨ ((∀ b', b ≤ b' → b' < cD s → plF s a ≤ plL s a → plF s b' ≤ plL s b' → ¬ crd s a b') ∧ v = k2 (nI (a + 1)) σ) := by
        intro v hv hn
        rw [hv]
        rcases ih with h9 | ⟨h8, h9⟩
        · exact Or.inl h9
        · refine Or.inr ⟨fun b' g1 g2 g3 g4 => ?_, h9⟩
          by_cases c : b' = b
          · rw [c] at g4 ⊢
            exact hn g3 g4
          · exact h8 b' (by omega) g2 g3 g4
      rw [fL_isCrowded_c12_s, l3, if_neg (nI_ge (by omega) (by omega))]
      by_cases pa : plF s a ≤ plL s a
      · obtain ⟨fa, la, ea, fa1, la1, fa2, la2⟩ := pbd_some hI ha pa
        rw [xrow_some ha (by omega) ((hb a ha).trans ea)]
        by_cases pb : plF s b ≤ plL s b
        · obtain ⟨fb, lb, eb, fb1, lb1, fb2, lb2⟩ := pbd_some hI (k := b) (by omega) pb
          rw [xrow_some (show b < cD s by omega) (by omega) ((hb b (by omega)).trans eb)]
          rcases P_c41 hI hb l3 l4 k2 (fL_isCrowded_c12 (cD s) bs k2 n) ha (b := b) (by omega) pa pb (cD s) 0 xFU (by omega) (by have h9 : xFU = 8192 := rfl; omega) with ⟨h8, h9⟩ | ⟨h8, h9⟩
          · exact Or.inl h9
          · exact step _ h9 (fun _ _ => h8)
        · rw [xrow_none (show b < cD s by omega) (by omega) ((hb b (by omega)).trans (pbd_none pb)), xl_t, ← nI_succ]
          exact step _ rfl (fun _ h9 => absurd h9 pb)
      · rw [xrow_none ha (by omega) ((hb a ha).trans (pbd_none pa)), xl_t, ← nI_succ]
        exact step _ rfl (fun h9 => absurd h9 pa)
theorem P_c2 {N : Nat} {s : sS} {bs : Nat → Option (Int32 × Int32)} {σ : xSt} (hI : Inv N s) (hb : bsP s bs) (l3 : σ 52 3 = nI (cD s)) (l4 : σ 52 4 = s 4) : ∀ (d a n : Nat), a + d = cD s → d < n → (∃ a' b', a ≤ a' ∧ a' < cD s ∧ b' < cD s ∧ plF s a' ≤ plL s a' ∧ plF s b' ≤ plL s b' ∧ crd s a' b') → fL_isCrowded_c2 (cD s) bs n (nI a) σ = some (1, σ) := by
  have h20 : cD s ≤ 20 := hI.caps.2.1
  intro d
  induction d with
  | zero =>
    intro a n hi hn ⟨a', b', g1, g2, _⟩
    omega
  | succ d ih =>
    intro a n hi hn ⟨a', b', g1, g2, g3, g4, g5, g6⟩
    match n, hn with
    | n + 1, hn =>
      rw [fL_isCrowded_c2_s, l3, if_neg (nI_ge (by omega) (by omega))]
      rcases P_c12 hI hb l3 l4 (fL_isCrowded_c2 (cD s) bs n) (a := a) (by omega) (cD s) 0 xFU (by omega) (by have h9 : xFU = 8192 := rfl; omega) with h9 | ⟨h8, h9⟩
      · exact h9
      · refine h9.trans (ih (a + 1) n (by omega) (by omega) ⟨a', b', ?_, g2, g3, g4, g5, g6⟩)
        by_cases c : a' = a
        · rw [c] at g4 g6
          exact absurd g6 (h8 b' (Nat.zero_le _) g3 g4 g5)
        · omega
/-- where one is late, there are too many -/
theorem P_isCrowded {N : Nat} {s : sS} {bs : Nat → Option (Int32 × Int32)} {σ : xSt} (hI : Inv N s) (hb : bsP s bs) (l3 : σ 52 3 = nI (cD s)) (l4 : σ 52 4 = s 4) {x : Nat} (hx : x < cD s) (hP : plF s x ≤ plL s x) (hR : plR s x = -1) : fL_isCrowded (cD s) bs σ = some (1, σ) := by
  have h20 : cD s ≤ 20 := hI.caps.2.1
  have o := hI.oven
  have o0 := o.1
  have o4 := o.2.2.2.2
  unfold bt at o0 o4
  obtain ⟨a, w, h1, h2, h3, h4⟩ := pl_crowd (F := plF s) (L := plL s) (D := cD s) (m := (s 4).toInt.toNat) (b0 := plB s) (T := (s 0).toInt.toNat) h20 (by omega) (by unfold plB; omega) (by unfold plB; omega) (by unfold plB; omega) (by unfold plB; omega) (fun k hk => by
    have := pl_b hI hk
    omega) (fun k hk => by
    have := pl_b hI hk
    rcases this.2.2.2 with h9 | h9
    · exact Or.inl (by omega)
    · exact Or.inr ⟨h9.1, by omega⟩) hx hP hR
  refine P_c2 hI hb l3 l4 (cD s) 0 xFU (by omega) (by have h9 : xFU = 8192 := rfl; omega) ⟨a, x, Nat.zero_le _, h1, hx, h2, hP, ?_⟩
  have ba := pl_b hI h1
  have bx := pl_b hI hx
  refine Nat.lt_of_le_of_lt (Nat.mul_le_mul (Nat.le_refl _) ?_) h4
  unfold rdN
  omega
