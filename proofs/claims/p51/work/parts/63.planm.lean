/-! ===== THE PLAN: the model's side ===== -/
def fM (σ σ' : xSt) : Prop := ∀ q, q < 4 → σ' q = σ q
theorem fM.refl (σ : xSt) : fM σ σ := fun _ _ => rfl
theorem fM.trans {a b c : xSt} (h : fM a b) (h2 : fM b c) : fM a c := fun q hq => (h2 q hq).trans (h q hq)
theorem fM.xu {σ σ' : xSt} (h : fM σ σ') (q k : Nat) (v : Int32) (hq : 4 ≤ q) : fM σ (xu σ' q k v) := fun q' hq' => (xu_ne _ _ _ (by omega)).trans (h q' hq')
theorem RM.scr {σ σ' : xSt} {a : xA} (h : RM σ a) (f : fM σ σ') : RM σ' a := h.frame (f 1 (by decide)) (f 2 (by decide)) (f 3 (by decide)) (by rw [f 0 (by decide)]) (by rw [f 0 (by decide)]) (by rw [f 0 (by decide)])
def encL (x : Int) : Int := if x = 1000000 then 2000000000 else x
def mF (s : sS) (k : Nat) : Int := if plF s k ≤ plL s k then plF s k else -1
def mP (s : sS) (σ : xSt) (R : Nat → Int32) : Prop := (∀ k, k < cD s → (σ 6 k).toInt = mF s k ∧ (plF s k ≤ plL s k → (σ 7 k).toInt = encL (plL s k))) ∧ ∀ k, k < cD s → σ 8 k = R k
theorem mF_m1 {N : Nat} {s : sS} (hI : Inv N s) {k : Nat} (hk : k < cD s) : mF s k = -1 ↔ ¬ plF s k ≤ plL s k := by
  have pb := pl_b hI hk
  have o := hI.oven.1
  unfold bt at o
  unfold mF
  by_cases g : plF s k ≤ plL s k
  · rw [if_pos g]
    exact ⟨fun h9 => by omega, fun h9 => absurd g h9⟩
  · rw [if_neg g]
    exact ⟨fun _ => g, fun _ => rfl⟩
theorem m6_iff {N : Nat} {s : sS} {σ : xSt} {R : Nat → Int32} (hI : Inv N s) (hP : mP s σ R) {k : Nat} (hk : k < cD s) : σ 6 k = -1 ↔ ¬ plF s k ≤ plL s k := by
  rw [fa_eq, (hP.1 k hk).1, show (-1 : Int32).toInt = -1 by decide]
  exact mF_m1 hI hk
theorem encL_b {b : Nat} (hb : b < 1000000) (x : Int) : (b : Int) ≤ encL x ↔ (b : Int) ≤ x := by
  unfold encL
  split <;> omega
theorem encL_le {x y : Int} (hx : x ≤ 1000000) (hy : y ≤ 1000000) : encL x ≤ encL y ↔ x ≤ y := by
  unfold encL
  split <;> split <;> omega
theorem plL_le {N : Nat} {s : sS} (hI : Inv N s) {k : Nat} (hk : k < cD s) : plL s k ≤ 1000000 := by
  have pb := pl_b hI hk
  have o := hI.oven.1
  unfold bt at o
  omega
theorem grS_none {F L : Nat → Int} {R : Nat → Int32} {D b : Nat} (h : nxS F L R b D = none) : ∀ m, grS F L D b m R = R
  | 0 => rfl
  | m + 1 => by
    show (match nxS F L R b D with | none => R | some j => grS F L D b m (upd R j (nI b))) = R
    rw [h]
theorem beg_eq {N : Nat} {s : sS} (hI : Inv N s) : (s 0 + 10 - 1) / 10 * 10 = nI (plB s) := by
  have o := hI.oven.1
  have e : s 0 = nI (s 0).toInt.toNat := bt_nI o (by decide)
  have o1 := o.2
  have hT : (s 0).toInt.toNat ≤ 100000 := by omega
  unfold plB
  obtain ⟨T, hT2⟩ : ∃ T, T = (s 0).toInt.toNat := ⟨_, rfl⟩
  rw [← hT2] at e hT
  rw [← hT2]
  rw [e, show (10 : Int32) = nI 10 from rfl, nI_add, show nI (T + 10) - 1 = nI (T + 9) from nI_pred _]
  have d : nI (T + 9) / nI 10 = nI ((T + 9) / 10) := by
    rw [fa_eq, i32_div (by rw [nI_toInt (by omega)]; omega) (by decide), nI_toInt (by omega), nI_toInt (by omega), nI_toInt (by omega)]
    omega
  rw [d, nI_mul]