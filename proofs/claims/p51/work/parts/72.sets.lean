/-! ===== THE ROW OF DOUGHS: sets and prices ===== -/
def cB (V a : Nat) : Nat := if bV V a = true then V - 2 ^ a else V
def remS (V : Nat) : List Nat := (rg 0 6).filter (fun a => bV V a)
def okT (V : Nat) (p : List Nat) : Bool := p.length == (remS V).length && p.all (fun x => decide (x < 6) && bV V x)
theorem bit6 : ∀ V, V < 64 → ∀ a, a < 6 → ((((nI V) >>> ((nI a) &&& 31)) &&& 1) = 0 ↔ bV V a = false) ∧ ((((nI V) >>> ((nI a) &&& 31)) &&& 1) = 1 ↔ bV V a = true) ∧ ((nI V) &&& (((1 : Int32) <<< ((nI a) &&& 31)) ^^^ (-1))) = nI (cB V a) ∧ cB V a < 64 := by decide +kernel
theorem remS_fin : ∀ V, V < 64 → ∀ a, a < 6 → bV V a = true → (remS V).filter (fun y => y != a) = remS (cB V a) ∧ (remS (cB V a)).length + 1 = (remS V).length := by decide +kernel
theorem remS_len : ∀ V, V < 64 → (remS V).length ≤ 6 ∧ ((remS V).length = 0 ↔ V = 0) := by decide +kernel
theorem remS_pre : ∀ V, V < 64 → ∀ k, k < 6 → (rg 0 (k + 1)).filter (fun a => bV V a) = (if bV V k = true then (rg 0 k).filter (fun a => bV V a) ++ [k] else (rg 0 k).filter (fun a => bV V a)) ∧ ((rg 0 k).filter (fun a => bV V a)).length ≤ k ∧ ((rg 0 k).filter (fun a => bV V a)).all (fun x => decide (x < 8)) = true := by decide +kernel
set_option maxRecDepth 100000 in
theorem chn_set : ∀ V, V < 64 → chn (prm (remS V).length (remS V)) = true ∧ (prm (remS V).length (remS V)).all (okT V) = true ∧ (prm (remS V).length (remS V)).length ≤ 720 ∧ (prm (remS V).length (remS V)).head? = some (remS V) := by decide +kernel
theorem set_lt : ∀ n, n < 7 → 2 ^ n ≤ 64 ∧ ∀ V, V < 2 ^ n → ∀ a, a < 6 → bV V a = true → a < n := by decide +kernel
def bcE (p0 : Int32) : Int32 :=
  let v1 := p0 - (((Int32.toUInt32 p0 >>> (Int32.toUInt32 1 &&& Int32.toUInt32 31)).toInt32) &&& 1431655765)
  let v2 := (v1 &&& 858993459) + (((Int32.toUInt32 v1 >>> (Int32.toUInt32 2 &&& Int32.toUInt32 31)).toInt32) &&& 858993459)
  let v3 := (v2 + ((Int32.toUInt32 v2 >>> (Int32.toUInt32 4 &&& Int32.toUInt32 31)).toInt32)) &&& 252645135
  let v4 := v3 + ((Int32.toUInt32 v3 >>> (Int32.toUInt32 8 &&& Int32.toUInt32 31)).toInt32)
  let v5 := v4 + ((Int32.toUInt32 v4 >>> (Int32.toUInt32 16 &&& Int32.toUInt32 31)).toInt32)
  v5 &&& 63
theorem bc_fin : ∀ V, V < 64 → bcE (nI V) = nI (remS V).length := by decide +kernel
theorem X_bitCount {V : Nat} (hV : V < 64) (σ : xSt) : fJ6_bitCount_0f7a4 (nI V) σ = some (nI (remS V).length, σ) := by
  rw [← bc_fin V hV]
  rfl
/-! what is cleaned between two -/
def mN (A B : Nat) : Nat := (if bV A 0 && !bV B 0 then 1 else 0) + (if bV A 1 && !bV B 1 then 2 else 0) + (if bV A 2 && !bV B 2 then 4 else 0) + (if bV A 3 && !bV B 3 then 8 else 0)
def cln (M : Nat) : Nat := 3 * (M % 2) + 5 * (M / 2 % 2) + 2 * (M / 4 % 2) + 4 * (M / 8 % 2)
def clP (M : Nat) : Nat → Nat
  | 0 => 0
  | k + 1 => clP M k + (if bV M k then ([3, 5, 2, 4] : List Nat).getD k 0 else 0)
theorem mN_fin : ∀ A, A < 16 → ∀ B, B < 16 → ((nI A) &&& ((nI B) ^^^ (-1))) = nI (mN A B) ∧ mN A B < 16 := by decide +kernel
theorem cln_fin : ∀ M, M < 16 → ((((3 * ((nI M) &&& 1)) + (5 * (((nI M) >>> ((1 : Int32) &&& 31)) &&& 1))) + (2 * (((nI M) >>> ((2 : Int32) &&& 31)) &&& 1))) + (4 * (((nI M) >>> ((3 : Int32) &&& 31)) &&& 1))) = nI (cln M) ∧ cln M ≤ 14 ∧ clP M 4 = cln M := by decide +kernel
theorem pri_fin : ∀ k, k < 4 → xPri k = nI (([3, 5, 2, 4] : List Nat).getD k 0) := by decide +kernel
def al (s : sS) (a : Nat) : Nat := (s (43 + a)).toNatClampNeg
theorem al_b {N : Nat} {s : sS} (h : Inv N s) {a : Nat} (ha : a < cR s) : s (43 + a) = nI (al s a) ∧ al s a < 16 := by
  have b := (h.rec.1 a ha).2.2.2.2.1
  have e := bt_nI b (by decide)
  refine ⟨e, ?_⟩
  have b2 := b.2
  have : (s (43 + a)).toNatClampNeg = (s (43 + a)).toInt.toNat := rfl
  unfold al
  omega
def pc (s : sS) (f a : Nat) : Int := if f = 7 then 0 else ((cln (mN (al s f) (al s a)) : Nat) : Int)
def runP (s : sS) : Nat → Int → List Nat → Option Int
  | _, m, [] => some m
  | f, m, a :: l => runP s a (m + pc s f a) l
theorem pc_b {N : Nat} {s : sS} (h : Inv N s) {f a : Nat} (hf : f = 7 ∨ f < cR s) (ha : a < cR s) : 0 ≤ pc s f a ∧ pc s f a ≤ 14 := by
  unfold pc
  by_cases c : f = 7
  · rw [if_pos c]; decide
  · rw [if_neg c]
    have hf : f < cR s := by omega
    have := (cln_fin _ (mN_fin _ (al_b h hf).2 _ (al_b h ha).2).2).2.1
    omega
theorem runP_ge {N : Nat} {s : sS} (h : Inv N s) : ∀ (l : List Nat) (f : Nat) (m e : Int), (f = 7 ∨ f < cR s) → (∀ a, a ∈ l → a < cR s) → runP s f m l = some e → m ≤ e
  | [], f, m, e, _, _, he => by
    have he : some m = some e := he
    cases he
    exact Int.le_refl _
  | a :: l, f, m, e, hf, hl, he => by
    have ha := hl a List.mem_cons_self
    have b := pc_b h hf ha
    have he : runP s a (m + pc s f a) l = some e := he
    have := runP_ge h l a _ e (Or.inr ha) (fun c hc => hl c (List.mem_cons_of_mem _ hc)) he
    omega
