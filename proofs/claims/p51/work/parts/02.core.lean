abbrev vwCl : List vw_C := [(RX0, TX0, 1), (RX1, TX1, 9), (RX2, TX2, 8), (RX3, TX3, 7), (RX4, TX4, 2), (RX5, TX5, 5), (RX6, TX6, 3), (RX7, TX7, 8), (RX8, TX8, 8), (RX9, TX9, 4), (RX10, TX10, 4), (RX11, TX11, 14), (RX12, TX12, 1), (RL, TL, 10), (RJ0, TJ0, 4), (RJ4, TJ4, 4)]
/-! ===== THE STATE OF ALL CELLS AS ONE FUNCTION (cell, place) ↦ int, AND THE WORLD IT STANDS FOR ===== -/
abbrev xSt : Type := Nat → Nat → Int32
abbrev xD1 : Type := Nat ⊕ (Nat × List (Option Nat))
abbrev xSh : Type := List xD1
def xe (a : Nat → Nat) (cA : ClassId) (σ : xSt) (k : Nat) (d : xD1) : va_E := match d with
  | .inl n => .inl (cA, n, .inl (σ k))
  | .inr o => .inr (o.1, o.2.mapIdx (fun j f => match f with | none => Value.int (σ k j) | some r => Value.ref (a r)))
def xW (a : Nat → Nat) (cA : ClassId) (sh : xSh) (σ : xSt) (ex : va_W) : va_W := sh.mapIdx (fun k d => (a k, xe a cA σ k d)) ++ ex
def xu (σ : xSt) (q k : Nat) (v : Int32) : xSt := fun i => if i = q then upd (σ q) k v else σ i
def xcp (σ : xSt) (q0 q1 sp dp n : Nat) : xSt := fun i => if i = q1 then va_cpy (σ q0) (σ q1) sp dp n else σ i
theorem xW_at {a : Nat → Nat} {cA : ClassId} {sh : xSh} {σ : xSt} {ex : va_W} {q : Nat} {d : xD1} (h : sh[q]? = some d) : (xW a cA sh σ ex)[q]? = some (a q, xe a cA σ q d) := by
  have hlt : q < sh.length := (List.getElem?_eq_some_iff.mp h).1
  unfold xW
  rw [List.getElem?_append_left (by simpa using hlt), List.getElem?_mapIdx, h]
  rfl
theorem xW_set {a : Nat → Nat} {cA : ClassId} {sh : xSh} {σ σ' : xSt} {ex : va_W} {q : Nat} {d : xD1} {e : va_E} (h : sh[q]? = some d) (he : xe a cA σ' q d = e) (ho : ∀ k, k ≠ q → σ' k = σ k) : (xW a cA sh σ ex).set q (a q, e) = xW a cA sh σ' ex := by
  have hlt : q < sh.length := (List.getElem?_eq_some_iff.mp h).1
  unfold xW
  rw [List.set_append, if_pos (by simpa using hlt)]
  congr 1
  apply List.ext_getElem?
  intro k
  rw [List.getElem?_set]
  by_cases hk : q = k
  · subst hk
    rw [if_pos rfl, if_pos (by simpa using hlt), List.getElem?_mapIdx, h, ← he]
    rfl
  · rw [if_neg hk, List.getElem?_mapIdx, List.getElem?_mapIdx]
    have h1 : ∀ d', xe a cA σ k d' = xe a cA σ' k d' := by
      intro d'
      unfold xe
      rw [ho k (fun h => hk h.symm)]
    cases sh[k]? with
    | none => rfl
    | some d' => show some (a k, xe a cA σ k d') = some (a k, xe a cA σ' k d'); rw [h1]
theorem xW_fst (a : Nat → Nat) (cA : ClassId) (sh : xSh) (σ σ' : xSt) (ex : va_W) : (xW a cA sh σ ex).map Prod.fst = (xW a cA sh σ' ex).map Prod.fst := by
  unfold xW
  rw [List.map_append, List.map_append]
  congr 1
  apply List.ext_getElem?
  intro k
  rw [List.getElem?_map, List.getElem?_map, List.getElem?_mapIdx, List.getElem?_mapIdx]
  cases sh[k]? <;> rfl
theorem x_fst_at {w w' : va_W} (h : w.map Prod.fst = w'.map Prod.fst) {k : Nat} {q : Nat × va_E} (hk : w'[k]? = some q) : ∃ q', w[k]? = some q' ∧ q'.1 = q.1 := by
  have h1 : (w.map Prod.fst)[k]? = (w'.map Prod.fst)[k]? := by rw [h]
  rw [List.getElem?_map, List.getElem?_map, hk] at h1
  cases hw : w[k]? with
  | none => rw [hw] at h1; cases h1
  | some q' => rw [hw] at h1; exact ⟨q', rfl, Option.some.inj h1⟩
theorem xD_of {A : Nat → Prop} {w w' : va_W} (h : w.map Prod.fst = w'.map Prod.fst) (hD : va_D A w) : va_D A w' := by
  refine ⟨fun i j p q hp hq hpq => ?_, fun k q hk => ?_⟩
  · obtain ⟨p', h1, h2⟩ := x_fst_at h hp
    obtain ⟨q', h3, h4⟩ := x_fst_at h hq
    exact hD.1 i j p' q' h1 h3 (by rw [h2, h4, hpq])
  · obtain ⟨q', h1, h2⟩ := x_fst_at h hk
    rw [← h2]
    exact hD.2 k q' h1
theorem xA_of {w w' : va_W} (sz : Nat) (h : w.map Prod.fst = w'.map Prod.fst) : va_A w sz = va_A w' sz := by
  funext q
  apply propext
  constructor
  · rintro (⟨k, e, hk⟩ | hk)
    · obtain ⟨q', h1, h2⟩ := x_fst_at h.symm hk
      obtain ⟨q1, q2⟩ := q'
      cases h2
      exact Or.inl ⟨k, _, h1⟩
    · exact Or.inr hk
  · rintro (⟨k, e, hk⟩ | hk)
    · obtain ⟨q', h1, h2⟩ := x_fst_at h hk
      obtain ⟨q1, q2⟩ := q'
      cases h2
      exact Or.inl ⟨k, _, h1⟩
    · exact Or.inr hk
/-! the pure words of the read, the write and so on: a function of the class in these words stands for its bytecode -/
def xin (i : Int32) (n : Nat) : Bool := !(decide (i < 0)) && decide (i.toNatClampNeg < n)
theorem xin_vp {i : Int32} {n : Nat} (h : xin i n = true) : vp_in i n := by
  unfold xin at h
  rw [Bool.and_eq_true] at h
  intro h2
  rcases h2 with h2 | h2
  · rw [decide_eq_true h2] at h; cases h.1
  · exact absurd (of_decide_eq_true h.2) (Nat.not_lt.mpr h2)
def xr {β : Type} (σ : xSt) (q n : Nat) (i : Int32) (K : Int32 → Option β) : Option β := if xin i n = true then K (σ q i.toNatClampNeg) else none
def xs {β : Type} (σ : xSt) (q n : Nat) (i v : Int32) (K : xSt → Option β) : Option β := if xin i n = true then K (xu σ q i.toNatClampNeg v) else none
def xp {β : Type} (σ : xSt) (q k : Nat) (v : Int32) (K : xSt → Option β) : Option β := K (xu σ q k v)
def xl {α β : Type} (v : α) (K : α → Option β) : Option β := K v
def xnz {β : Type} (v : Int32) (K : Option β) : Option β := if v = 0 then none else K
def xnzl {β : Type} (v : Int64) (K : Option β) : Option β := if v = 0 then none else K
def xc {α β : Type} (f : Option α) (K : α → Option β) : Option β := match f with | none => none | some x => K x
def xb {β : Type} (v : Int32) (K : Option β) : Option β := if v = 0 ∨ v = 1 then K else none
def xcpy {β : Type} (σ : xSt) (q0 n0 : Nat) (sp : Int32) (q1 n1 : Nat) (dp n : Int32) (K : xSt → Option β) : Option β :=
  if (¬ sp < 0 ∧ ¬ dp < 0 ∧ ¬ n < 0) ∧ sp.toNatClampNeg + n.toNatClampNeg ≤ n0 ∧ dp.toNatClampNeg + n.toNatClampNeg ≤ n1 then K (xcp σ q0 q1 sp.toNatClampNeg dp.toNatClampNeg n.toNatClampNeg) else none
theorem xr_e {β : Type} {σ : xSt} {q n : Nat} {i : Int32} {K : Int32 → Option β} {o : β} (h : xr σ q n i K = some o) : vp_in i n ∧ K (σ q i.toNatClampNeg) = some o := by
  unfold xr at h
  split at h
  · rename_i h1; exact ⟨xin_vp h1, h⟩
  · cases h
theorem xs_e {β : Type} {σ : xSt} {q n : Nat} {i v : Int32} {K : xSt → Option β} {o : β} (h : xs σ q n i v K = some o) : vp_in i n ∧ K (xu σ q i.toNatClampNeg v) = some o := by
  unfold xs at h
  split at h
  · rename_i h1; exact ⟨xin_vp h1, h⟩
  · cases h
theorem xnz_e {β : Type} {v : Int32} {K : Option β} {o : β} (h : xnz v K = some o) : ¬ v = 0 ∧ K = some o := by
  unfold xnz at h
  split at h
  · cases h
  · rename_i h1; exact ⟨h1, h⟩
theorem xnzl_e {β : Type} {v : Int64} {K : Option β} {o : β} (h : xnzl v K = some o) : ¬ v = 0 ∧ K = some o := by
  unfold xnzl at h
  split at h
  · cases h
  · rename_i h1; exact ⟨h1, h⟩
theorem xb_e {β : Type} {v : Int32} {K : Option β} {o : β} (h : xb v K = some o) : (v = 0 ∨ v = 1) ∧ K = some o := by
  unfold xb at h
  split at h
  · rename_i h1; exact ⟨h1, h⟩
  · cases h
theorem xc_e {α β : Type} {f : Option α} {K : α → Option β} {o : β} (h : xc f K = some o) : ∃ x, f = some x ∧ K x = some o := by
  unfold xc at h
  cases f with
  | none => cases h
  | some x => exact ⟨x, rfl, h⟩
theorem xif_pos {β : Type} {c : Prop} [Decidable c] {A B : Option β} {o : β} (hc : c) (hf : (if c then A else B) = some o) : A = some o := by rw [if_pos hc] at hf; exact hf
theorem xif_neg {β : Type} {c : Prop} [Decidable c] {A B : Option β} {o : β} (hc : ¬ c) (hf : (if c then A else B) = some o) : B = some o := by rw [if_neg hc] at hf; exact hf
theorem xnar {v : Int32} (h : v = 0 ∨ v = 1) : narrow .boolean (.int v) = .int v := by rcases h with rfl | rfl <;> decide +kernel

theorem xr_f {β : Type} {σ : xSt} {q n : Nat} {i : Int32} {K : Int32 → Option β} {o : β} (h : xr σ q n i K = some o) : vp_in i n ∧ ∀ v, v = σ q i.toNatClampNeg → K v = some o := ⟨(xr_e h).1, fun _ e => by rw [e]; exact (xr_e h).2⟩
theorem xs_f {β : Type} {σ : xSt} {q n : Nat} {i v : Int32} {K : xSt → Option β} {o : β} (h : xs σ q n i v K = some o) : vp_in i n ∧ ∀ σ1, σ1 = xu σ q i.toNatClampNeg v → K σ1 = some o := ⟨(xs_e h).1, fun _ e => by rw [e]; exact (xs_e h).2⟩
theorem xp_f {β : Type} {σ : xSt} {q k : Nat} {v : Int32} {K : xSt → Option β} {o : β} (h : xp σ q k v K = some o) : ∀ σ1, σ1 = xu σ q k v → K σ1 = some o := fun _ e => by rw [e]; exact h
theorem xl_f {α β : Type} {v : α} {K : α → Option β} {o : β} (h : xl v K = some o) : ∀ y, y = v → K y = some o := fun _ e => by rw [e]; exact h
def xc2 {α β : Type} (f : Option (α × xSt)) (K : α → xSt → Option β) : Option β := match f with | none => none | some x => K x.1 x.2
theorem xc2_f {α β : Type} {f : Option (α × xSt)} {K : α → xSt → Option β} {o : β} (h : xc2 f K = some o) : ∃ r σ, f = some (r, σ) ∧ K r σ = some o := by
  unfold xc2 at h
  cases f with
  | none => cases h
  | some x => exact ⟨x.1, x.2, rfl, h⟩
def xrs {β : Type} (f : Nat → Int32) (n : Nat) (i : Int32) (K : Int32 → Option β) : Option β := if xin i n = true then K (f i.toNatClampNeg) else none
theorem xrs_f {β : Type} {f : Nat → Int32} {n : Nat} {i : Int32} {K : Int32 → Option β} {o : β} (h : xrs f n i K = some o) : vp_in i n ∧ ∀ v, v = f i.toNatClampNeg → K v = some o := by
  unfold xrs at h
  split at h
  · rename_i h1; exact ⟨xin_vp h1, fun _ e => by rw [e]; exact h⟩
  · cases h
theorem xcpy_f {β : Type} {σ : xSt} {q0 n0 : Nat} {sp : Int32} {q1 n1 : Nat} {dp n : Int32} {K : xSt → Option β} {o : β} (h : xcpy σ q0 n0 sp q1 n1 dp n K = some o) : ((¬ sp < 0 ∧ ¬ dp < 0 ∧ ¬ n < 0) ∧ sp.toNatClampNeg + n.toNatClampNeg ≤ n0 ∧ dp.toNatClampNeg + n.toNatClampNeg ≤ n1) ∧ ∀ σ1, σ1 = xcp σ q0 q1 sp.toNatClampNeg dp.toNatClampNeg n.toNatClampNeg → K σ1 = some o := by
  unfold xcpy at h
  split at h
  · rename_i h1; exact ⟨h1, fun _ e => by rw [e]; exact h⟩
  · cases h
/-- the fuel of every loop -/
def xFU : Nat := 8192
