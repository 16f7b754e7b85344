/-! ===== THE TEXT OF PARTS: what is typed is what is read ===== -/
def enL (v : Nat) : Nat := if v < 10 then 4 else 5
def enAt (t : Nat → Nat) (p g v : Nat) : Prop := t p = 32 ∧ t (p + 1) = 48 + g ∧ t (p + 2) = 58 ∧ (v < 10 → t (p + 3) = 48 + v) ∧ (10 ≤ v → t (p + 3) = 48 + v / 10 ∧ t (p + 4) = 48 + v % 10)
theorem enL_b (v : Nat) : 4 ≤ enL v ∧ enL v ≤ 5 := by unfold enL; split <;> omega
theorem enAt.cong {t t' : Nat → Nat} {p g v : Nat} (h : enAt t p g v) (e : ∀ j, p ≤ j → j < p + enL v → t' j = t j) : enAt t' p g v := by
  obtain ⟨h1, h2, h3, h4, h5⟩ := h
  have b := enL_b v
  refine ⟨by rw [e p (by omega) (by omega)]; exact h1, by rw [e (p + 1) (by omega) (by omega)]; exact h2, by rw [e (p + 2) (by omega) (by omega)]; exact h3, fun hv => by rw [e (p + 3) (by omega) (by omega)]; exact h4 hv, fun hv => ?_⟩
  have e5 : enL v = 5 := if_neg (by omega)
  exact ⟨by rw [e (p + 3) (by omega) (by omega)]; exact (h5 hv).1, by rw [e (p + 4) (by omega) (by omega)]; exact (h5 hv).2⟩
/-- from the end p of an entry on: more entries, each behind a comma, up to n -/
def TXr (t : Nat → Nat) (n : Nat) : Nat → List (Nat × Nat) → Prop
  | p, [] => p = n
  | p, e :: es => t p = 44 ∧ enAt t (p + 1) e.1 e.2 ∧ TXr t n (p + 1 + enL e.2) es
def TX (t : Nat → Nat) (n : Nat) : List (Nat × Nat) → Prop
  | [] => n = 0
  | e :: es => enAt t 0 e.1 e.2 ∧ TXr t n (enL e.2) es
theorem TXr_le {t : Nat → Nat} {n : Nat} : ∀ (es : List (Nat × Nat)) (p : Nat), TXr t n p es → p ≤ n
  | [], p, h => Nat.le_of_eq h
  | e :: es, p, h => by have := TXr_le es _ h.2.2; omega
theorem TXr_snoc {t t' : Nat → Nat} {n g v : Nat} (e : ∀ j, j < n → t' j = t j) (h1 : t' n = 44) (h2 : enAt t' (n + 1) g v) : ∀ (es : List (Nat × Nat)) (p : Nat), TXr t n p es → TXr t' (n + 1 + enL v) p (es ++ [(g, v)])
  | [], p, h => by
    obtain rfl : p = n := h
    exact ⟨h1, h2, rfl⟩
  | x :: es, p, h => by
    obtain ⟨q1, q2, q3⟩ := h
    have b := TXr_le es _ q3
    have b2 := enL_b x.2
    exact ⟨by rw [e p (by omega)]; exact q1, q2.cong (fun j h1 h2 => e j (by omega)), TXr_snoc e h1 h2 es _ q3⟩
theorem TX_snoc {t t' : Nat → Nat} {n g v : Nat} {es : List (Nat × Nat)} (h : TX t n es) (h0 : es ≠ []) (e : ∀ j, j < n → t' j = t j) (h1 : t' n = 44) (h2 : enAt t' (n + 1) g v) : TX t' (n + 1 + enL v) (es ++ [(g, v)]) := by
  match es, h, h0 with
  | x :: es, h, _ =>
    have b := TXr_le es _ h.2
    exact ⟨h.1.cong (fun j h1 h2 => e j (by omega)), TXr_snoc e h1 h2 es _ h.2⟩
theorem TX_one {t : Nat → Nat} {g v : Nat} (h : enAt t 0 g v) : TX t (enL v) [(g, v)] := ⟨h, rfl⟩
/-! the reader over it -/
theorem bl_stop {T : Nat → Int32} {L d p : Nat} (h : p < L → ¬ T p = 32) : blS T L (d + 1) p = p := by
  unfold blS
  exact if_neg (fun z => h z.1 z.2)
theorem bl_go {T : Nat → Int32} {L d p : Nat} (h1 : p < L) (h2 : T p = 32) : blS T L (d + 1) p = blS T L d (p + 1) := by
  conv => lhs; unfold blS
  exact if_pos ⟨h1, h2⟩
theorem dg_stop {T : Nat → Int32} {L d p : Nat} (h : p < L → ¬ (48 ≤ T p ∧ T p ≤ 57)) : dgS T L (d + 1) p = p := by
  unfold dgS
  exact if_neg (fun z => h z.1 z.2)
theorem dg_go {T : Nat → Int32} {L d p : Nat} (h1 : p < L) (h2 : 48 ≤ T p ∧ T p ≤ 57) : dgS T L (d + 1) p = dgS T L d (p + 1) := by
  conv => lhs; unfold dgS
  exact if_pos ⟨h1, h2⟩
theorem ch_ne {c d : Nat} (hc : c < 1000) (hd : d < 1000) (h : c ≠ d) : ¬ nI c = nI d := fun z => h ((nI_eq (by omega) (by omega)).mp z)
theorem ch_dig {c : Nat} (hc : c < 1000) : (48 ≤ nI c ∧ nI c ≤ 57) ↔ (48 ≤ c ∧ c ≤ 57) := by
  have e1 : (48 : Int32) = nI 48 := rfl
  have e2 : (57 : Int32) = nI 57 := rfl
  rw [fa_le, fa_le, nI_toInt (by omega)]
  show ((48 : Int) ≤ _ ∧ _ ≤ (57 : Int)) ↔ _
  omega
theorem rd_entry {t : Nat → Nat} {T : Nat → Int32} {n p g v b f : Nat} {P : Nat → Int32} (hn : n ≤ 80) (hT : ∀ k, k < n → T k = nI (t k)) (ht : ∀ k, k < n → t k < 1000) (h : enAt t p g v) (hp : p + enL v ≤ n) (hnx : p + enL v < n → t (p + enL v) = 44) (hb : b ≤ g) (hg : g ≤ 7) (hv : v < 100) :
    rdS T n (f + 1) p b P = if n ≤ p + enL v then (-1, upd P g (nI v)) else rdS T n f (p + enL v + 1) (g + 1) (upd P g (nI v)) := by
  obtain ⟨h1, h2, h3, h4, h5⟩ := h
  have be := enL_b v
  have t0 : T p = 32 := by rw [hT p (by omega), h1]; rfl
  have t1 : T (p + 1) = nI (48 + g) := by rw [hT (p + 1) (by omega), h2]
  have t2 : T (p + 2) = nI 58 := by rw [hT (p + 2) (by omega), h3]
  have n32 : ∀ c, c < 1000 → c ≠ 32 → ¬ nI c = 32 := fun c hc h => ch_ne (d := 32) hc (by decide) h
  have g0 : blS T n 80 p = p + 1 := by rw [bl_go (by omega) t0]; exact bl_stop (fun _ => by rw [t1]; exact n32 _ (by omega) (by omega))
  have g1 : dgS T n 80 (p + 1) = p + 2 := by
    rw [dg_go (by omega) (by rw [t1, ch_dig (by omega)]; omega)]
    exact dg_stop (fun _ => by rw [show p + 1 + 1 = p + 2 from rfl, t2, ch_dig (by omega)]; omega)
  have co : blS T n 80 (p + 2) = p + 2 := bl_stop (fun _ => by rw [t2]; exact n32 58 (by decide) (by decide))
  have good : vlS T 1 (p + 1) 0 = nI g := by
    show 10 * 0 + T (p + 1) - 48 = nI g
    rw [t1]
    have e : (10 : Int32) * 0 + nI (48 + g) - 48 = nI (48 + g) - nI 48 := by
      rw [Int32.mul_zero, Int32.zero_add]
      rfl
    rw [e, pk_sub (by omega), Nat.add_sub_cancel_left]
  -- the amount's digits
  have hd : ∃ d, d = enL v - 3 ∧ 1 ≤ d ∧ d ≤ 2 ∧ blS T n 80 (p + 3) = p + 3 ∧ dgS T n 80 (p + 3) = p + 3 + d ∧ vlS T d (p + 3) 0 = nI v := by
    have hstop : ∀ k : Nat, k = p + enL v → ∀ d, dgS T n (d + 1) k = k := fun k hk d => dg_stop (fun hlt => by
      rw [hk, hT _ (by omega), hnx (by omega), ch_dig (by decide)]; omega)
    by_cases c : v < 10
    · have e4 : enL v = 4 := if_pos c
      have t3 : T (p + 3) = nI (48 + v) := by rw [hT (p + 3) (by omega), h4 c]
      refine ⟨1, by omega, by omega, by omega, bl_stop (fun _ => by rw [t3]; exact n32 _ (by omega) (by omega)), ?_, ?_⟩
      · rw [dg_go (by omega) (by rw [t3, ch_dig (by omega)]; omega)]
        exact hstop (p + 3 + 1) (by omega) 78
      · show 10 * 0 + T (p + 3) - 48 = nI v
        rw [t3]
        have e : (10 : Int32) * 0 + nI (48 + v) - 48 = nI (48 + v) - nI 48 := by
          rw [Int32.mul_zero, Int32.zero_add]
          rfl
        rw [e, pk_sub (by omega), Nat.add_sub_cancel_left]
    · have e5 : enL v = 5 := if_neg c
      obtain ⟨q1, q2⟩ := h5 (by omega)
      have t3 : T (p + 3) = nI (48 + v / 10) := by rw [hT (p + 3) (by omega), q1]
      have t4 : T (p + 4) = nI (48 + v % 10) := by rw [hT (p + 4) (by omega), q2]
      refine ⟨2, by omega, by omega, by omega, bl_stop (fun _ => by rw [t3]; exact n32 _ (by omega) (by omega)), ?_, ?_⟩
      · rw [dg_go (by omega) (by rw [t3, ch_dig (by omega)]; omega), dg_go (by omega) (by rw [show p + 3 + 1 = p + 4 from rfl, t4, ch_dig (by omega)]; omega)]
        exact hstop (p + 3 + 1 + 1) (by omega) 77
      · show 10 * (10 * 0 + T (p + 3) - 48) + T (p + 4) - 48 = nI v
        rw [t3, t4]
        have e : (10 : Int32) * 0 + nI (48 + v / 10) - 48 = nI (48 + v / 10) - nI 48 := by
          rw [Int32.mul_zero, Int32.zero_add]
          rfl
        rw [e, pk_sub (by omega), Nat.add_sub_cancel_left]
        have e2 : (10 : Int32) * nI (v / 10) = nI (10 * (v / 10)) := (Int32.ofNat_mul 10 (v / 10)).symm
        rw [e2, nI_add]
        show nI (10 * (v / 10) + (48 + v % 10)) - nI 48 = nI v
        rw [pk_sub (by omega)]
        congr 1
        omega
  obtain ⟨d, hdd, d1, d2, p0, p1, val⟩ := hd
  have ec : p + 3 + d = p + enL v := by omega
  have cc : blS T n 80 (p + enL v) = p + enL v := bl_stop (fun hlt => by rw [hT _ hlt, hnx hlt]; exact n32 44 (by decide) (by decide))
  conv => lhs; unfold rdS
  dsimp only
  rw [g0, g1, if_neg (show ¬ p + 2 = p + 1 by omega), if_neg (show ¬ 5 ≤ p + 2 - (p + 1) by omega), show p + 2 - (p + 1) = 1 by omega, good, if_neg (fun z => z ⟨nI_le hb (by omega), nI_le (b := 7) hg (by decide)⟩), co, if_neg (fun z => z ⟨by omega, by rw [t2]; rfl⟩), show p + 2 + 1 = p + 3 from rfl, p0, p1, if_neg (show ¬ p + 3 + d = p + 3 by omega), if_neg (show ¬ 5 ≤ p + 3 + d - (p + 3) by omega), show p + 3 + d - (p + 3) = d by omega, val, ec, cc, nI_clamp (show g < 2 ^ 31 by omega)]
  by_cases c : n ≤ p + enL v
  · rw [if_pos c, if_pos c]
  · rw [if_neg c, if_neg c, if_pos (by rw [hT _ (by omega), hnx (by omega)]; rfl)]
/-- the parts that are told -/
def prS : List (Nat × Nat) → (Nat → Int32) → (Nat → Int32)
  | [], P => P
  | e :: es, P => prS es (upd P e.1 (nI e.2))
def okE : Nat → List (Nat × Nat) → Prop
  | _, [] => True
  | b, e :: es => b ≤ e.1 ∧ e.1 ≤ 7 ∧ e.2 < 100 ∧ okE (e.1 + 1) es
theorem rd_rest {t : Nat → Nat} {T : Nat → Int32} {n : Nat} (hn : n ≤ 80) (hT : ∀ k, k < n → T k = nI (t k)) (ht : ∀ k, k < n → t k < 1000) : ∀ (es : List (Nat × Nat)) (g v p b f : Nat) (P : Nat → Int32), enAt t p g v → TXr t n (p + enL v) es → b ≤ g → g ≤ 7 → v < 100 → okE (g + 1) es → es.length < f → rdS T n f p b P = (-1, prS es (upd P g (nI v)))
  | [], g, v, p, b, f, P, h1, h2, h3, h4, h5, h6, h7 => by
    obtain ⟨f, rfl⟩ : ∃ z, f = z + 1 := ⟨f - 1, by simp at h7; omega⟩
    have h2 : p + enL v = n := h2
    rw [rd_entry hn hT ht h1 (by omega) (fun z => by omega) h3 h4 h5, if_pos (by omega)]
    rfl
  | e :: es, g, v, p, b, f, P, h1, h2, h3, h4, h5, h6, h7 => by
    obtain ⟨f, rfl⟩ : ∃ z, f = z + 1 := ⟨f - 1, by simp at h7; omega⟩
    obtain ⟨q1, q2, q3⟩ := h2
    obtain ⟨o1, o2, o3, o4⟩ := h6
    have b2 := TXr_le es _ q3
    have b3 := enL_b e.2
    rw [rd_entry hn hT ht h1 (by omega) (fun _ => q1) h3 h4 h5, if_neg (by omega)]
    exact rd_rest hn hT ht es e.1 e.2 _ _ f _ q2 q3 o1 o2 o3 o4 (by simp at h7; omega)
