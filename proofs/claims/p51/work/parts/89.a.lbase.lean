/-! ===== THE LAW, PURELY: the class's part of a state, the draws, the books ===== -/
theorem RX.cong {σ τ : xSt} {a : xA} (h : RX σ a) (e : ∀ q, q < 52 → τ q = σ q) : RX τ a := by
  have lc : ∀ x : sS, lvS σ x → lvS τ x := fun x hx => hx.cong (e 5 (by decide)) (e 6 (by decide)) (e 7 (by decide)) (e 8 (by decide)) (e 9 (by decide)) (e 13 (by decide)) (e 14 (by decide)) (e 39 (by decide)) (e 40 (by decide)) (e 41 (by decide)) (e 42 (by decide)) (e 43 (by decide)) (e 15 (by decide)) (e 36 (by decide))
  obtain ⟨h1, h2, ⟨g1, g2, o0, g3, g4, g5⟩, h4, h5⟩ := h
  refine ⟨h1.cong (fun q k hq => ?_), lc _ h2, ⟨g1, by rw [e 0 (by decide)]; exact g2, o0, g3, by rw [e 0 (by decide)]; exact g4, fun i x hx => ?_⟩, ⟨by rw [e 39 (by decide)]; exact h4.1, by rw [e 40 (by decide)]; exact h4.2⟩, ⟨h5.1, by rw [e 49 (by decide)]; exact h5.2.1, fun k hk => by rw [e 50 (by decide)]; exact h5.2.2 k hk⟩⟩
  · have hq52 : q < 52 := by unfold xseg at hq; omega
    rw [e q hq52]
  · obtain ⟨p1, p2⟩ := g5 i x hx
    exact ⟨by rw [e 1 (by decide)]; exact p1, lc _ p2⟩
/-- the law's own cells stand still -/
def kL (σ σ' : xSt) : Prop := ∀ q, 52 ≤ q → σ' q = σ q
theorem kL.rf {σ : xSt} : kL σ σ := fun _ _ => rfl
theorem kL.tr {σ τ ρ : xSt} (h : kL σ τ) (h2 : kL τ ρ) : kL σ ρ := fun q hq => (h2 q hq).trans (h q hq)
theorem xmix_RX {σ ρ : xSt} {a : xA} (h : RX σ a) : RX (xmix σ ρ) a := h.cong (fun _ hq => xmix_lo _ _ hq)
theorem xmix_kL {σ ρ : xSt} : kL ρ (xmix σ ρ) := fun _ hq => xmix_hi _ _ (Nat.not_lt.mpr hq)
/-- a call that answers -/
theorem xco_XR {f : Option (xO × xSt)} {σ : xSt} {sp : xO × xA} (h : XR f sp) {r : Int32} (hr : sp.1 = .inl r) : ∃ σ', RX σ' sp.2 ∧ kL σ σ' ∧ ∀ {β : Type} (K : Int32 → xSt → Option β), xco f σ K = K r σ' := by
  obtain ⟨τ, h1, h2⟩ := h
  rw [hr] at h1
  exact ⟨xmix τ σ, xmix_RX h2, xmix_kL, fun K => by rw [h1]; rfl⟩
theorem xcm_XR {f : Option (Int32 × xSt)} {σ : xSt} {sp : Int32 × xA} (h : XRi f sp) : ∃ σ', RX σ' sp.2 ∧ kL σ σ' ∧ ∀ {β : Type} (K : Int32 → xSt → Option β), xcm f σ K = K sp.1 σ' := by
  obtain ⟨τ, h1, h2⟩ := h
  exact ⟨xmix τ σ, xmix_RX h2, xmix_kL, fun K => by rw [h1]; rfl⟩
/-- a call that answers, and leaves the class as it was -/
theorem xcm_same {α β : Type} {f : Option (α × xSt)} {σ : xSt} {r : α} (h : f = some (r, σ)) (K : α → xSt → Option β) : xcm f σ K = K r σ := by
  rw [h]
  show K r (xmix σ σ) = K r σ
  have e : xmix σ σ = σ := by
    funext q
    unfold xmix
    split <;> rfl
  rw [e]
theorem xc2_s {α β : Type} {f : Option (α × xSt)} {r : α} {σ' : xSt} {K : α → xSt → Option β} (h : f = some (r, σ')) : xc2 f K = K r σ' := by rw [h]; rfl
/-! the draws -/
theorem u_shr16 (u : UInt32) : (u >>> (Int32.toUInt32 16 &&& Int32.toUInt32 31)).toInt32 = nI (u.toNat / 65536) := by
  have e : (Int32.toUInt32 16 &&& Int32.toUInt32 31) = 16 := by decide
  rw [e]
  have h : (u >>> 16).toNat = u.toNat / 65536 := by
    rw [UInt32.toNat_shiftRight]
    show u.toNat >>> 16 = u.toNat / 65536
    rw [Nat.shiftRight_eq_div_pow]
  rw [← h]
  show (u >>> 16).toInt32 = (UInt32.ofNat (u >>> 16).toNat).toInt32
  rw [UInt32.ofNat_toNat]
theorem P_next (σ : xSt) {n : Nat} (h0 : 0 < n) (h1 : n < 100000) : ∃ k σ', k < n ∧ fX12_next (nI n) σ = some (nI k, σ') ∧ ∀ q, q ≠ 53 → σ' q = σ q := by
  have hne : ¬ nI n = 0 := fun z => by
    have := (nI_eq (a := n) (b := 0) (by omega) (by omega)).mp z
    omega
  refine ⟨((σ 53 0 * 1103515245 + 12345).toUInt32.toNat / 65536) % n, xu σ 53 0 (σ 53 0 * 1103515245 + 12345), Nat.mod_lt _ h0, ?_, fun q hq => if_neg hq⟩
  have hlt : (σ 53 0 * 1103515245 + 12345).toUInt32.toNat / 65536 < 65536 := by
    have := (σ 53 0 * 1103515245 + 12345).toUInt32.toNat_lt
    omega
  have hv : (xu σ 53 0 (σ 53 0 * 1103515245 + 12345)) 53 0 = σ 53 0 * 1103515245 + 12345 := by
    unfold xu
    rw [if_pos rfl]
    exact pk_us
  show xnz (nI n) (some (_, xu σ 53 0 (σ 53 0 * 1103515245 + 12345))) = _
  rw [hv, u_shr16]
  unfold xnz
  rw [if_neg hne, nI_rem (by omega) h0 (by omega)]
/-! the books -/
theorem bk_sum {N : Nat} {s : sS} (hI : Inv N s) : s 9 + s 10 + bkG s + bkT s + bkO s 2 + bkB s = s 8 := by
  have e : s 8 = Int32.ofInt (led s) := by rw [← hI.led.1, Int32.ofInt_toInt]
  have e2 : s 9 + s 10 + bkG s + bkT s + bkO s 2 + bkB s = s 9 + s 10 + bkG s + (bkO s 0 + bkO s 1 + bkO s 2) + bkB s := by
    rw [← bkT_eq]
    ac_rfl
  rw [e2, bkDg, bkBr, e]
  unfold led bkG
  rw [s32_ofI, Int32.ofInt_add, Int32.ofInt_add, Int32.ofInt_add, Int32.ofInt_add, Int32.ofInt_toInt, Int32.ofInt_toInt]
theorem sp_book_at (a : xA) {p : Nat} (hp : p ≤ 6) : (sp_book (nI p) a).2 = a ∧ (sp_book (nI p) a).1 = .inl (if p = 0 then a.2.1 8 else if p = 1 then a.2.1 9 else if p = 2 then a.2.1 10 else if p = 3 then bkG a.2.1 else if p = 4 then bkT a.2.1 else if p = 5 then bkO a.2.1 2 else bkB a.2.1) := by
  rcases (show p = 0 ∨ p = 1 ∨ p = 2 ∨ p = 3 ∨ p = 4 ∨ p = 5 ∨ p = 6 by omega) with rfl | rfl | rfl | rfl | rfl | rfl | rfl <;> exact ⟨rfl, rfl⟩
theorem P_book {N : Nat} {σ : xSt} {a : xA} (h : RX σ a) (hI : Inv N a.2.1) {p : Nat} (hp : p ≤ 6) : ∃ σ', RX σ' a ∧ kL σ σ' ∧ ∀ {β : Type} (K : Int32 → xSt → Option β), xco (fX11_book (nI p) σ) σ K = K (if p = 0 then a.2.1 8 else if p = 1 then a.2.1 9 else if p = 2 then a.2.1 10 else if p = 3 then bkG a.2.1 else if p = 4 then bkT a.2.1 else if p = 5 then bkO a.2.1 2 else bkB a.2.1) σ' := by
  obtain ⟨e1, e2⟩ := sp_book_at a hp
  obtain ⟨σ', q1, q2, q3⟩ := xco_XR (σ := σ) (X_book (H := a.1) (s := a.2.1) (tx := a.2.2) h hI (nI p)) e2
  have q1 : RX σ' (sp_book (nI p) a).2 := q1
  rw [e1] at q1
  exact ⟨σ', q1, q2, q3⟩
theorem P_store {N : Nat} {σ : xSt} {a : xA} (h : RX σ a) (hI : Inv N a.2.1) {p : Nat} (hp : p < 8) : ∃ σ', RX σ' a ∧ kL σ σ' ∧ ∀ {β : Type} (K : Int32 → xSt → Option β), xco (fX11_store (nI p) σ) σ K = K (a.2.1 (11 + p)) σ' := by
  have e0 : sp_store (nI p) a = (.inl (a.2.1 (11 + p)), a) := by
    rcases (show p = 0 ∨ p = 1 ∨ p = 2 ∨ p = 3 ∨ p = 4 ∨ p = 5 ∨ p = 6 ∨ p = 7 by omega) with rfl | rfl | rfl | rfl | rfl | rfl | rfl | rfl <;> rfl
  obtain ⟨σ', q1, q2, q3⟩ := xco_XR (σ := σ) (X_store (H := a.1) (s := a.2.1) (tx := a.2.2) h hI.caps (nI p)) (r := a.2.1 (11 + p)) (congrArg Prod.fst e0)
  have q1 : RX σ' (sp_store (nI p) a).2 := q1
  rw [e0] at q1
  exact ⟨σ', q1, q2, q3⟩
theorem P_isKept0 {N : Nat} {a : xA} (hI : Inv N a.2.1) : ∀ (d i n : Nat) (σ : xSt), i + d = 8 → d < n → RX σ a → ∃ σ', fL_isKept_c59 n (a.2.1 8) (s32 (fun k => a.2.1 (11 + k)) i) (nI i) σ = some (1, σ') ∧ RX σ' a ∧ kL σ σ' := by
  intro d
  induction d with
  | zero =>
    intro i n σ hi hn h
    obtain rfl : i = 8 := by omega
    match n, hn with
    | n + 1, _ =>
      obtain ⟨σ1, h1, k1, e1⟩ := P_book h hI (p := 0) (by omega)
      obtain ⟨σ2, h2, k2, e2⟩ := P_book h1 hI (p := 3) (by omega)
      refine ⟨σ2, ?_, h2, k1.tr k2⟩
      rw [fL_isKept_c59_s, if_pos (by decide)]
      rw [show (0 : Int32) = nI 0 from rfl, e1, if_pos rfl, if_pos rfl, show (3 : Int32) = nI 3 from rfl, e2]
      exact if_pos rfl
  | succ d ih =>
    intro i n σ hi hn h
    match n, hn with
    | n + 1, hn =>
      obtain ⟨σ1, h1, k1, e1⟩ := P_store h hI (p := i) (by omega)
      obtain ⟨σ2, e2, h2, k2⟩ := ih (i + 1) n σ1 (by omega) (by omega) h1
      refine ⟨σ2, ?_, h2, k1.tr k2⟩
      rw [fL_isKept_c59_s, if_neg (show ¬ (8 : Int32) ≤ nI i from nI_ge (b := 8) (by omega) (by decide)), e1]
      unfold xl
      rw [← nI_succ]
      exact e2
theorem P_isKept {N : Nat} {σ : xSt} {a : xA} (h : RX σ a) (hI : Inv N a.2.1) : ∃ σ', fL_isKept σ = some (1, σ') ∧ RX σ' a ∧ kL σ σ' := by
  obtain ⟨σ1, h1, k1, e1⟩ := P_book h hI (p := 1) (by omega)
  obtain ⟨σ2, h2, k2, e2⟩ := P_book h1 hI (p := 2) (by omega)
  obtain ⟨σ3, h3, k3, e3⟩ := P_book h2 hI (p := 3) (by omega)
  obtain ⟨σ4, h4, k4, e4⟩ := P_book h3 hI (p := 4) (by omega)
  obtain ⟨σ5, h5, k5, e5⟩ := P_book h4 hI (p := 5) (by omega)
  obtain ⟨σ6, h6, k6, e6⟩ := P_book h5 hI (p := 6) (by omega)
  obtain ⟨σ7, e7, h7, k7⟩ := P_isKept0 hI 8 0 9 σ6 (by omega) (by omega) h6
  refine ⟨σ7, ?_, h7, ((((((k1.tr k2).tr k3).tr k4).tr k5).tr k6).tr k7)⟩
  unfold fL_isKept
  rw [show (1 : Int32) = nI 1 from rfl, e1, show (2 : Int32) = nI 2 from rfl, e2, show (3 : Int32) = nI 3 from rfl, e3, show (4 : Int32) = nI 4 from rfl, e4, show (5 : Int32) = nI 5 from rfl, e5, show (6 : Int32) = nI 6 from rfl, e6]
  unfold xl
  have hb := bk_sum hI
  show fL_isKept_c59 xF9 (a.2.1 9 + a.2.1 10 + bkG a.2.1 + bkT a.2.1 + bkO a.2.1 2 + bkB a.2.1) 0 0 σ6 = _
  rw [hb]
  exact e7
