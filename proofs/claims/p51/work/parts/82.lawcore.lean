/-! ===== THE LAW'S WORLD: the class's cells, behind them the law's own (52 the law, 53 its draws, 54 low, 55 high, 56 wait, 57 allergens) ===== -/
def shLw : xSh := [.inr (13, [some 0, some 53, none, none, none, none, some 54, some 55, some 56, some 57]), .inr (12, [none]), .inl 4, .inl 4, .inl 4, .inl 4]
def xLE (E : xE) : Prop := ∃ r, E.sh = (shX ++ shLw) ++ r
theorem shX_len : shX.length = 52 := rfl
theorem shXL_len : (shX ++ shLw).length = 58 := rfl
theorem cL52 {E : xE} (hE : xLE E) : E.sh[52]? = some (.inr (13, [some 0, some 53, none, none, none, none, some 54, some 55, some 56, some 57])) := by
  obtain ⟨r, h⟩ := hE
  rw [h, List.getElem?_append_left (by rw [shXL_len]; decide)]
  rfl
theorem cL53 {E : xE} (hE : xLE E) : E.sh[53]? = some (.inr (12, [none])) := by
  obtain ⟨r, h⟩ := hE
  rw [h, List.getElem?_append_left (by rw [shXL_len]; decide)]
  rfl
theorem cL54 {E : xE} (hE : xLE E) : E.sh[54]? = some (.inl 4) := by
  obtain ⟨r, h⟩ := hE
  rw [h, List.getElem?_append_left (by rw [shXL_len]; decide)]
  rfl
theorem cL55 {E : xE} (hE : xLE E) : E.sh[55]? = some (.inl 4) := by
  obtain ⟨r, h⟩ := hE
  rw [h, List.getElem?_append_left (by rw [shXL_len]; decide)]
  rfl
theorem cL56 {E : xE} (hE : xLE E) : E.sh[56]? = some (.inl 4) := by
  obtain ⟨r, h⟩ := hE
  rw [h, List.getElem?_append_left (by rw [shXL_len]; decide)]
  rfl
theorem cL57 {E : xE} (hE : xLE E) : E.sh[57]? = some (.inl 4) := by
  obtain ⟨r, h⟩ := hE
  rw [h, List.getElem?_append_left (by rw [shXL_len]; decide)]
  rfl
theorem cL0 {E : xE} (hE : xLE E) : E.sh[0]? = some (.inr (11, [some 2, some 4, some 12, some 20, some 21, some 27, some 29, some 35, some 38, some 46, some 49, some 1, none, none])) := by
  obtain ⟨r, h⟩ := hE
  rw [h, List.getElem?_append_left (by rw [shXL_len]; decide)]
  rfl
/-! the class's part of it is the class's world, all the rest stands outside -/
def xmix (σ ρ : xSt) : xSt := fun i => if i < 52 then σ i else ρ i
theorem xmix_lo (σ ρ : xSt) {i : Nat} (h : i < 52) : xmix σ ρ i = σ i := by unfold xmix; rw [if_pos h]
theorem xmix_hi (σ ρ : xSt) {i : Nat} (h : ¬ i < 52) : xmix σ ρ i = ρ i := by unfold xmix; rw [if_neg h]
theorem xmix_self (ρ : xSt) : xmix ρ ρ = ρ := by
  funext i
  unfold xmix
  split <;> rfl
def xCut (E : xE) (ρ : xSt) : xE := (E.D, E.a, E.cA, shX, (E.W ρ).drop 52, E.g)
theorem xW_k {a : Nat → Nat} {cA : ClassId} {sh : xSh} {ex : va_W} {σ σ' : xSt} {k : Nat} (h : σ k = σ' k) : (xW a cA sh σ ex)[k]? = (xW a cA sh σ' ex)[k]? := by
  unfold xW
  by_cases hk : k < sh.length
  · rw [List.getElem?_append_left (by rw [List.length_mapIdx]; exact hk), List.getElem?_append_left (by rw [List.length_mapIdx]; exact hk), List.getElem?_mapIdx, List.getElem?_mapIdx]
    cases sh[k]? with
    | none => rfl
    | some d =>
      show some (a k, xe a cA σ k d) = some (a k, xe a cA σ' k d)
      unfold xe
      rw [h]
  · rw [List.getElem?_append_right (by rw [List.length_mapIdx]; omega), List.getElem?_append_right (by rw [List.length_mapIdx]; omega), List.length_mapIdx, List.length_mapIdx]
theorem xCut_W {E : xE} (hE : xLE E) (σ ρ : xSt) : (xCut E ρ).W σ = E.W (xmix σ ρ) := by
  obtain ⟨r, h⟩ := hE
  have hs : ∀ k, k < 52 → E.sh[k]? = shX[k]? := fun k hk => by rw [h, List.append_assoc, List.getElem?_append_left (by rw [shX_len]; exact hk)]
  have h52 : 52 ≤ E.sh.length := by rw [h, List.length_append, shXL_len]; omega
  apply List.ext_getElem?
  intro k
  show (xW E.a E.cA shX σ ((xW E.a E.cA E.sh ρ E.ex).drop 52))[k]? = (xW E.a E.cA E.sh (xmix σ ρ) E.ex)[k]?
  by_cases hk : k < 52
  · rw [xW_k (σ' := xmix σ ρ) (xmix_lo σ ρ hk).symm]
    unfold xW
    rw [List.getElem?_append_left (by rw [List.length_mapIdx, shX_len]; exact hk), List.getElem?_append_left (by rw [List.length_mapIdx]; omega), List.getElem?_mapIdx, List.getElem?_mapIdx, hs k hk]
  · rw [← xW_k (σ := ρ) (σ' := xmix σ ρ) (xmix_hi σ ρ hk).symm]
    show (shX.mapIdx (fun k d => (E.a k, xe E.a E.cA σ k d)) ++ (xW E.a E.cA E.sh ρ E.ex).drop 52)[k]? = _
    rw [List.getElem?_append_right (by rw [List.length_mapIdx, shX_len]; omega), List.length_mapIdx, shX_len, List.getElem?_drop, show 52 + (k - 52) = k by omega]
theorem xw_cut {E : xE} {A : Nat → Prop} {H0 : Heap} {s : State} {ρ : xSt} {H : Heap} {locs : List Loc} (hE : xLE E) (hw : xw E A H0 s ρ H locs) : xw (xCut E ρ) A H0 s ρ H locs := by
  have e : (xCut E ρ).W ρ = E.W ρ := by rw [xCut_W hE, xmix_self]
  obtain ⟨h1, h2, h3, h4⟩ := hw
  exact ⟨h1, by rw [e]; exact h2, by rw [e]; exact h3, h4⟩
theorem xw_unc {E : xE} {A : Nat → Prop} {H0 : Heap} {s : State} {σ ρ : xSt} {H : Heap} {locs : List Loc} (hE : xLE E) (hw : xw (xCut E ρ) A H0 s σ H locs) : xw E A H0 s (xmix σ ρ) H locs := by
  have e : (xCut E ρ).W σ = E.W (xmix σ ρ) := xCut_W hE σ ρ
  obtain ⟨h1, h2, h3, h4⟩ := hw
  exact ⟨h1, by rw [← e]; exact h2, by rw [← e]; exact h3, h4⟩
theorem xw_unc2 {E : xE} {A : Nat → Prop} {H0 : Heap} {s : State} {σ ρ : xSt} {H : Heap} {locs : List Loc} (hE : xLE E) (hw : xw (xCut E ρ) A H0 s σ H locs) : ∃ ρ1, ρ1 = xmix σ ρ ∧ xw E A H0 s ρ1 H locs := ⟨_, rfl, xw_unc hE hw⟩
/-! a class's call in the law's words: the answer alone (no throw), and the law's world with the class's new part -/
def xco {β : Type} (f : Option (xO × xSt)) (ρ : xSt) (K : Int32 → xSt → Option β) : Option β := match f with | some (.inl r, σ) => K r (xmix σ ρ) | _ => none
theorem xco_f {β : Type} {f : Option (xO × xSt)} {ρ : xSt} {K : Int32 → xSt → Option β} {o : β} (h : xco f ρ K = some o) : ∃ r σ, f = some (.inl r, σ) ∧ K r (xmix σ ρ) = some o := by
  unfold xco at h
  split at h
  · exact ⟨_, _, rfl, h⟩
  · cases h
theorem xco_g {β : Type} {f : Option (xO × xSt)} {ρ : xSt} {K : Int32 → xSt → Option β} {o : β} (h : xco f ρ K = some o) : ∃ r σ, f = some (.inl r, σ) ∧ ∀ ρ1, ρ1 = xmix σ ρ → K r ρ1 = some o := by
  obtain ⟨r, σ, h1, h2⟩ := xco_f h
  exact ⟨r, σ, h1, fun _ e => by rw [e]; exact h2⟩
theorem xco_t {β : Type} {f : Option (xO × xSt)} {ρ : xSt} {K : Int32 → xSt → Option β} {r : Int32} {σ : xSt} (h : f = some (.inl r, σ)) : xco f ρ K = K r (xmix σ ρ) := by rw [h]; rfl
def xcm {α β : Type} (f : Option (α × xSt)) (ρ : xSt) (K : α → xSt → Option β) : Option β := match f with | none => none | some x => K x.1 (xmix x.2 ρ)
theorem xcm_f {α β : Type} {f : Option (α × xSt)} {ρ : xSt} {K : α → xSt → Option β} {o : β} (h : xcm f ρ K = some o) : ∃ r σ, f = some (r, σ) ∧ K r (xmix σ ρ) = some o := by
  unfold xcm at h
  cases f with
  | none => cases h
  | some x => exact ⟨x.1, x.2, rfl, h⟩
theorem xcm_g {α β : Type} {f : Option (α × xSt)} {ρ : xSt} {K : α → xSt → Option β} {o : β} (h : xcm f ρ K = some o) : ∃ r σ, f = some (r, σ) ∧ ∀ ρ1, ρ1 = xmix σ ρ → K r ρ1 = some o := by
  obtain ⟨r, σ, h1, h2⟩ := xcm_f h
  exact ⟨r, σ, h1, fun _ e => by rw [e]; exact h2⟩
theorem xcm_t {α β : Type} {f : Option (α × xSt)} {ρ : xSt} {K : α → xSt → Option β} {r : α} {σ : xSt} (h : f = some (r, σ)) : xcm f ρ K = K r (xmix σ ρ) := by rw [h]; rfl
/-- one of the two that the law catches: the answer, or the answer v behind a throw of the class k -/
def xch (f : Option (xO × xSt)) (ρ : xSt) (k : Nat) (v : Int32) : Option (Int32 × xSt) := match f with | some (.inl r, σ) => some (r, xmix σ ρ) | some (.inr j, σ) => if j = k then some (v, xmix σ ρ) else none | none => none
theorem xch_f {f : Option (xO × xSt)} {ρ : xSt} {k : Nat} {v o1 : Int32} {o2 : xSt} (h : xch f ρ k v = some (o1, o2)) : (∃ σ, f = some (.inl o1, σ) ∧ o2 = xmix σ ρ) ∨ (∃ σ, f = some (.inr k, σ) ∧ o1 = v ∧ o2 = xmix σ ρ) := by
  unfold xch at h
  split at h
  · obtain ⟨rfl, rfl⟩ := Prod.mk.inj (Option.some.inj h); exact Or.inl ⟨_, rfl, rfl⟩
  · split at h
    · rename_i e; subst e; obtain ⟨rfl, rfl⟩ := Prod.mk.inj (Option.some.inj h); exact Or.inr ⟨_, rfl, rfl, rfl⟩
    · cases h
  · cases h
/-- a double that is a number -/
def xnn {β : Type} (v : UInt64) (K : Option β) : Option β := if isNaN64 v = true then none else K
theorem xnn_e {β : Type} {v : UInt64} {K : Option β} {o : β} (h : xnn v K = some o) : isNaN64 v = false ∧ K = some o := by
  unfold xnn at h
  split at h
  · cases h
  · rename_i h1; exact ⟨by cases hv : isNaN64 v with | false => rfl | true => exact absurd hv h1, h⟩
theorem xnn_t {β : Type} {v : UInt64} {K : Option β} (h : isNaN64 v = false) : xnn v K = K := by unfold xnn; rw [h]; rfl
/-! the given things of the law: the class's, its two rows, its texts, the rows of rows -/
def xAOA (U : State) : Prop := (Cond.arrayOver (.array .int)).before #[] U = true
theorem xAOA.moved {u U : State} (hvm : u.vm.Alike U.vm) (h : xAOA u) : xAOA U := by
  obtain ⟨comp, c, k, h1, h2, h3, h4, h5⟩ := arrayOverA_spec h
  obtain ⟨k', hk', he⟩ := hvm.2.2 _ _ h3
  have hi : (U.vm.classes.findIdx? fun (x : Class) => match x.kind with | .array component _ => component == comp | _ => false) = some c := by
    have a1 := va_idx_bare U.vm comp
    have a2 := va_idx_bare u.vm comp
    first | rw [hvm.bare_eq] at a1 | rw [← hvm.bare_eq] at a1
    exact (a1.symm.trans a2).trans h2
  have hkind : k'.kind = .array comp (.array .int) := by rw [he]; exact h4
  have f1 : U.vm.findClass (FieldType.array .int).toString = some comp := by rw [hvm.findClass]; exact h1
  have f2 : U.vm.findClass ("[" ++ (FieldType.array .int).toString) = some c := by rw [hvm.findClass]; exact h5
  unfold xAOA Cond.before Cond.holds
  simp only [Cond.value]
  rw [f1, Option.bind_some]
  refine (congrArg (fun o : Option Nat => (o.bind (fun c => (U.vm.classes[c]?).map fun (k : Class) => match k.kind with | .array _ ty => decide (ty = FieldType.array .int) && decide (U.vm.findClass ("[" ++ (FieldType.array .int).toString) = some c) | _ => false) == some true)) hi).trans ?_
  simp [hk', hkind, f2]
/-- the class of an array of rows -/
def xKA (cAA : ClassId) (s : State) : Prop := ArrOfT s cAA (.array .int) ∧ s.vm.findClass "[[I" = some cAA ∧ ∃ (kA : Class) (comp : ClassId), s.vm.classes[cAA]? = some kA ∧ kA.kind = .array comp (.array .int) ∧ s.vm.findClass "[I" = some comp
theorem xKA.moved {cAA : ClassId} {u U : State} (hvm : u.vm.Alike U.vm) (h : xKA cAA u) : xKA cAA U := by
  obtain ⟨h1, h0, kA, comp, h2, h3, h4⟩ := h
  obtain ⟨k', hk', he⟩ := hvm.2.2 _ _ h2
  exact ⟨arrOfT_moved hvm h1, by rw [hvm.findClass]; exact h0, k', comp, hk', by rw [he]; exact h3, by rw [hvm.findClass]; exact h4⟩
theorem xI_str : ("[" ++ (FieldType.int).toString) = "[I" := by decide +kernel
theorem xAI_str : (FieldType.array .int).toString = "[I" := by decide +kernel
theorem xAAI_str : ("[" ++ (FieldType.array .int).toString) = "[[I" := by decide +kernel
def xOnes (j : Nat) : Int32 := nI (48 + j % 10)
def xTens (j : Nat) : Int32 := nI (48 + j / 10)
def xGS (g : Nat × Nat × (Nat → Nat)) (A : Nat → Prop) (U : State) (H : Heap) : Prop :=
  (vk_R RL 78 " " (g.2.2 12) U ∧ vk_R RL 80 ", " (g.2.2 13) U) ∧ vk_S 2 [1, 2] [[32], [44, 32]] (fun i => g.2.2 (12 + i)) (fun i => g.2.2 (14 + i)) A U H ∧ va_Z "java/lang/String" "COMPACT_STRINGS" "Z" (.int 1) A U H ∧
  (va_Z "java/lang/Integer" "DigitOnes" "[B" (.ref (g.2.2 16)) A U H ∧ va_T .byte (g.2.2 16) 100 (fun j => .int (xOnes j)) A U H) ∧ (va_Z "java/lang/Integer" "DigitTens" "[B" (.ref (g.2.2 17)) A U H ∧ va_T .byte (g.2.2 17) 100 (fun j => .int (xTens j)) A U H) ∧
  va_Zq "jdk/internal/util/Preconditions" "SIOOBE_FORMATTER" "Ljava/util/function/BiFunction;" A U H ∧ (ArrOfT U (g.2.2 21) .byte ∧ va_RA U (g.2.2 21) .byte) ∧ va_Nw (.castable "[B" "java/lang/Cloneable") U
theorem xGS.same {g : Nat × Nat × (Nat → Nat)} {A : Nat → Prop} {u U : State} {H : Heap} (hv : U.vm = u.vm) (h : xGS g A u H) : xGS g A U H := by
  obtain ⟨⟨k0, k1⟩, k2, k3, ⟨k4, k5⟩, ⟨k6, k7⟩, k8, ⟨k9, k10⟩, k11⟩ := h
  have ha : u.vm.Alike U.vm := by rw [hv]; exact Vm.Alike.refl _
  exact ⟨⟨k0.same hv, k1.same hv⟩, k2.moved ha, k3.moved ha, ⟨k4.moved ha, k5.moved ha⟩, ⟨k6.moved ha, k7.moved ha⟩, k8.moved ha, ⟨arrOfT_moved ha k9, k10.moved ha⟩, va_Nw.same rfl hv.symm k11⟩
theorem xGS.go {g : Nat × Nat × (Nat → Nat)} {A B : Nat → Prop} {u U : State} {H H1 : Heap} (hW : u.WarmedH U.vm) (hq : ∀ a : Nat, a < H.size → ¬ A a → H1[a]? = H[a]?) (hAB : ∀ q, B q → A q) (h : xGS g A u H) : xGS g B U H1 := by
  obtain ⟨⟨k0, k1⟩, k2, k3, ⟨k4, k5⟩, ⟨k6, k7⟩, k8, ⟨k9, k10⟩, k11⟩ := h
  have ha : u.vm.Alike U.vm := hW.alike
  exact ⟨⟨k0.warm hW, k1.warm hW⟩, ((k2.moved ha).kept hq).narrow hAB, ((k3.moved ha).kept hq).narrow hAB, ⟨((k4.moved ha).kept hq).narrow hAB, ((k5.moved ha).kept hq).narrow hAB⟩, ⟨((k6.moved ha).kept hq).narrow hAB, ((k7.moved ha).kept hq).narrow hAB⟩, ((k8.moved ha).kept hq).narrow hAB, ⟨arrOfT_moved ha k9, k10.moved ha⟩, va_Nw.warmC hW k11⟩
def xGL (g : Nat × Nat × (Nat → Nat)) (A : Nat → Prop) (U : State) (H : Heap) : Prop :=
  xG g A U H ∧ (va_Z RL "GAINS" "[I" (.ref (g.2.2 10)) A U H ∧ va_T .int (g.2.2 10) 6 (fun j => .int (xPts j)) A U H) ∧ (va_Z RL "PRICES" "[I" (.ref (g.2.2 11)) A U H ∧ va_T .int (g.2.2 11) 4 (fun j => .int (xPri j)) A U H) ∧ (xAOA U ∧ xKA (g.2.2 20) U) ∧ xGS g A U H
theorem xGL.same {g : Nat × Nat × (Nat → Nat)} {A : Nat → Prop} {u U : State} {H : Heap} (hv : U.vm = u.vm) (h : xGL g A u H) : xGL g A U H := by
  obtain ⟨h1, ⟨h2, h3⟩, ⟨h4, h5⟩, h6, h7⟩ := h
  have ha : u.vm.Alike U.vm := by rw [hv]; exact Vm.Alike.refl _
  exact ⟨xG.same hv h1, ⟨h2.moved ha, h3.moved ha⟩, ⟨h4.moved ha, h5.moved ha⟩, ⟨h6.1.moved ha, h6.2.moved ha⟩, xGS.same hv h7⟩
theorem xGL.go {g : Nat × Nat × (Nat → Nat)} {A B : Nat → Prop} {u U : State} {H H1 : Heap} (hW : u.WarmedH U.vm) (hq : ∀ a : Nat, a < H.size → ¬ A a → H1[a]? = H[a]?) (hAB : ∀ q, B q → A q) (h : xGL g A u H) : xGL g B U H1 := by
  obtain ⟨h1, ⟨h2, h3⟩, ⟨h4, h5⟩, h6, h7⟩ := h
  have ha : u.vm.Alike U.vm := hW.alike
  exact ⟨xG.go hW hq hAB h1, ⟨((h2.moved ha).kept hq).narrow hAB, ((h3.moved ha).kept hq).narrow hAB⟩, ⟨((h4.moved ha).kept hq).narrow hAB, ((h5.moved ha).kept hq).narrow hAB⟩, ⟨h6.1.moved ha, h6.2.moved ha⟩, xGS.go hW hq hAB h7⟩
/-! contracts of the law's methods: the world of ρ goes over into that of ρ1; mc cells and ms slots are made and forgotten -/
def xPreL (E : xE) (av : List Value) (σ : xSt) (sz : Nat) : Array Value → State → Prop := va_Pc av (fun U => U.heap.size = sz ∧ va_P E.D vwCl (E.W σ) U.heap ∧ va_K E.D vwCl [(E.cA, .int)] U ∧ va_D (fun _ => True) (E.W σ) ∧ xGL E.g (va_A (E.W σ) sz) U U.heap)
def xLi (l : Launch) (y : MethodName) (ws : List Cond) (rm : Room) (E : xE) (av : List Value) (σ : xSt) (r0 : Int32) (σ1 : xSt) (mc ms : Nat) : Prop := ∀ sz : Nat, Met l y ws rm (xPreL E av σ sz) (xQi E (va_A (E.W σ) sz) r0 σ1) mc ms (va_A (E.W σ) sz)
abbrev xXw (A : Nat → Prop) : String → State → State → Prop := vx_X (S := Unit) (fun _ => False) (fun _ _ _ => True) A
/-- the same of a method with a table of its own -/
def xLx (l : Launch) (y : MethodName) (ws : List Cond) (rm : Room) (E : xE) (av : List Value) (σ : xSt) (r0 : Int32) (σ1 : xSt) (mc ms : Nat) : Prop := ∀ sz : Nat, vx_Met l y ws rm (xPreL E av σ sz) (xQi E (va_A (E.W σ) sz) r0 σ1) (xXw (va_A (E.W σ) sz)) mc ms (va_A (E.W σ) sz)
theorem xPreL_blind {E : xE} {av : List Value} {σ : xSt} {sz : Nat} : FrameBlind (xPreL E av σ sz) := fun v U fr mk h => by
  obtain ⟨q0, q1, qP, qK, qD, qG⟩ := h
  exact ⟨q0, q1, qP, va_K.moved (u := U) (U := U.calling fr mk v) (Vm.Alike.refl U.vm) qK, qD, xGL.same (u := U) (U := U.calling fr mk v) rfl qG⟩
theorem xPreL_of {E : xE} {A : Nat → Prop} {s : State} {σ : xSt} {H : Heap} {locs : List Loc} (av : List Value) (hw : xw E A s.heap s σ H locs) (hA : ∀ q, s.heap.size ≤ q → A q) (hG : xGL E.g A s s.heap) : ∀ U : State, U.heap = H → s.WarmedH U.vm → xPreL E av σ H.size av.toArray U := by
  intro U hU hW
  refine ⟨rfl, by rw [hU], by rw [hU]; exact hw.2.1, va_K.moved hW.alike hw.1, hw.2.2.1.weaken (fun _ _ _ _ => trivial), ?_⟩
  rw [hU]
  exact xGL.go hW (fun q h1 h2 => hw.2.2.2.2.1 q h1 h2) (hw.free hA) hG
section XLR
variable {p : Program} {l : Launch} {e : Env} {R : Room} {s : State} {m : MethodId} {args : Array Value} {below : List Frame} {meth : Method} {c : Code} {H : Heap} {locs : List Loc} {cells slots : Nat} {Q : State → Prop}
variable {cc : ByteArray} {pc : Nat} {ls : Array Slot} {rest : List Value} {E : xE} {A : Nat → Prop} {H0 : Heap} {σ : xSt}
theorem x_preLV (av : List Value) (hw : xw E A s.heap s σ H locs) (hA : ∀ q, s.heap.size ≤ q → A q) (hG : xGL E.g A s s.heap) {q ci : Nat} {fl : List (Option Nat)} (hq : E.sh[q]? = some (.inr (ci, fl))) {C : String} {T : u_T} {N : Nat} (hc : vwCl[ci]? = some (C, T, N)) : PreV s H C (E.a q) (xPreL E (.ref (E.a q) :: av) σ H.size) av :=
  ⟨xPreL_blind, va_recv hw.1 hw.2.1 hc (xW_at hq), xPreL_of _ hw hA hG⟩
theorem x_preLS (av : List Value) (hw : xw E A s.heap s σ H locs) (hA : ∀ q, s.heap.size ≤ q → A q) (hG : xGL E.g A s s.heap) : PreS s H (xPreL E av σ H.size) av := ⟨xPreL_blind, xPreL_of _ hw hA hG⟩
/-- a call of a law's method -/
theorem x_callLi {av : Array Value} {r0 : Int32} {σ1 : xSt} {st0 : List Value} {mc ms : Nat} (hr : va_Run p l e R s m args below meth c H locs cells slots mc ms (F0 m pc ls st0) rest (xQi E (va_A (E.W σ) H.size) r0 σ1 av) (va_A (E.W σ) H.size)) (hw : xw E A H0 s σ H locs) (hA : ∀ q, H0.size ≤ q → A q)
    (kk : ∀ (H1 : Heap) (locs1 : List Loc), xw E A H0 s σ1 H1 locs1 → W p l e R s m args below meth c H1 locs1 (cells + mc) (slots + ms) Q (F0 m (pc + 3) ls (.int r0 :: rest))) : W p l e R s m args below meth c H locs cells slots Q (F0 m pc ls st0) := by
  refine va_calli hr hw.2.2.2 (fun q _ h => hw.free hA q h) (hw.free hA) (fun r u t H1 locs1 ht hvm hpost hB hz1 hk1 hS1 => ?_)
  obtain ⟨rfl, rfl⟩ := hpost
  obtain ⟨hP1, hK1, hD1⟩ := hB
  rw [ht] at hP1
  exact kk H1 locs1 ⟨hw.1, hP1, xD_of (E.fst σ u) hw.2.2.1, hS1⟩
/-- a call of a law's method with a table of its own: it never throws -/
theorem x_callLx {av : Array Value} {r0 : Int32} {σ1 : xSt} {st0 : List Value} {mc ms : Nat} (hr : vx_Run p l e R s m args below meth c H locs cells slots mc ms (F0 m pc ls st0) rest (xQi E (va_A (E.W σ) H.size) r0 σ1 av) (xXw (va_A (E.W σ) H.size)) (va_A (E.W σ) H.size)) (hw : xw E A H0 s σ H locs) (hA : ∀ q, H0.size ≤ q → A q)
    (kk : ∀ (H1 : Heap) (locs1 : List Loc), xw E A H0 s σ1 H1 locs1 → W p l e R s m args below meth c H1 locs1 (cells + mc) (slots + ms) Q (F0 m (pc + 3) ls (.int r0 :: rest))) : W p l e R s m args below meth c H locs cells slots Q (F0 m pc ls st0) := by
  refine vx_calli hr hw.2.2.2 (fun q _ h => hw.free hA q h) (hw.free hA) (fun q _ h => hw.free hA q h) (fun E9 ce q9 u t H1 locs1 ht hvm hpx hBX hz1 hk1 hS1 hce hcv hcl => hpx.elim) (fun r u t H1 locs1 ht hvm hpost hB hz1 hk1 hS1 => ?_)
  obtain ⟨rfl, rfl⟩ := hpost
  obtain ⟨hP1, hK1, hD1⟩ := hB
  rw [ht] at hP1
  exact kk H1 locs1 ⟨hw.1, hP1, xD_of (E.fst σ u) hw.2.2.1, hS1⟩
/-- a call of the class that does not throw there -/
theorem x_tcallo {av : Array Value} {r : Int32} {σ1 : xSt} {st0 : List Value} {mc ms : Nat} (hr : vx_Run p l e R s m args below meth c H locs cells slots mc ms (F0 m pc ls st0) rest (xQt E (va_A (E.W σ) H.size) (.inl r) σ1 av) (xXt E (va_A (E.W σ) H.size) (.inl r) σ1) (va_A (E.W σ) H.size)) (hw : xw E A H0 s σ H locs) (hA : ∀ q, H0.size ≤ q → A q)
    (kk : ∀ (H1 : Heap) (locs1 : List Loc), xw E A H0 s σ1 H1 locs1 → W p l e R s m args below meth c H1 locs1 (cells + mc) (slots + ms) Q (F0 m (pc + 3) ls (.int r :: rest))) : W p l e R s m args below meth c H locs cells slots Q (F0 m pc ls st0) :=
  x_tcalli hr hw hA (fun q9 ce H locs h1 h2 h3 hw => by obtain ⟨_, h9, _⟩ := h3; cases h9) (fun r9 H locs h1 hw => by obtain rfl := Sum.inl.inj h1; exact kk H locs hw)
/-! ends -/
theorem x_Liret {v r0 : Int32} {σ1 : xSt} {mc ms : Nat} (hexec : p.tables.exec = Jvm.exec) (hb : c.code = cc) (hr : meth.sig.returnType = some .int) (hlocks : meth.locks = false) (hw : xw E A s.heap s σ H locs) (hf : some (v, σ) = some (r0, σ1)) (hc : cells ≤ mc) (hs : slots ≤ ms) (hdg : decode cc pc = .ok (.ireturn, 1)) : W p l e R s m args below meth c H locs cells slots (MQ below (xQi E A r0 σ1) args s mc ms A) (F0 m pc ls [.int v]) :=
  W.widen hc hs (x_iret hexec hb hr hlocks hw hf hdg)
theorem x_Lzret {v r0 : Int32} {σ1 : xSt} {mc ms : Nat} (hexec : p.tables.exec = Jvm.exec) (hb : c.code = cc) (hr : meth.sig.returnType = some .boolean) (hlocks : meth.locks = false) (hw : xw E A s.heap s σ H locs) (hf : xb v (some (v, σ)) = some (r0, σ1)) (hc : cells ≤ mc) (hs : slots ≤ ms) (hdg : decode cc pc = .ok (.ireturn, 1)) : W p l e R s m args below meth c H locs cells slots (MQ below (xQi E A r0 σ1) args s mc ms A) (F0 m pc ls [.int v]) :=
  W.widen hc hs (x_zret hexec hb hr hlocks hw hf hdg)
theorem x_Lzretc {v r0 : Int32} {σ1 : xSt} {mc ms : Nat} (hexec : p.tables.exec = Jvm.exec) (hb : c.code = cc) (hr : meth.sig.returnType = some .boolean) (hlocks : meth.locks = false) (hw : xw E A s.heap s σ H locs) (h01 : v = 0 ∨ v = 1) (hf : some (v, σ) = some (r0, σ1)) (hc : cells ≤ mc) (hs : slots ≤ ms) (hdg : decode cc pc = .ok (.ireturn, 1)) : W p l e R s m args below meth c H locs cells slots (MQ below (xQi E A r0 σ1) args s mc ms A) (F0 m pc ls [.int v]) :=
  W.widen hc hs (x_zretc hexec hb hr hlocks hw h01 hf hdg)
theorem x_Xiret {v r0 : Int32} {σ1 : xSt} {mc ms : Nat} {XC : String → State → State → Prop} (hexec : p.tables.exec = Jvm.exec) (hb : c.code = cc) (hr : meth.sig.returnType = some .int) (hlocks : meth.locks = false) (hw : xw E A s.heap s σ H locs) (hf : some (v, σ) = some (r0, σ1)) (hc : cells ≤ mc) (hs : slots ≤ ms) (hdg : decode cc pc = .ok (.ireturn, 1)) : W p l e R s m args below meth c H locs cells slots (vx_MQ below (xQi E A r0 σ1) XC args s mc ms A) (F0 m pc ls [.int v]) :=
  vx_ret (x_Liret hexec hb hr hlocks hw hf hc hs hdg)
theorem x_Xzret {v r0 : Int32} {σ1 : xSt} {mc ms : Nat} {XC : String → State → State → Prop} (hexec : p.tables.exec = Jvm.exec) (hb : c.code = cc) (hr : meth.sig.returnType = some .boolean) (hlocks : meth.locks = false) (hw : xw E A s.heap s σ H locs) (hf : xb v (some (v, σ)) = some (r0, σ1)) (hc : cells ≤ mc) (hs : slots ≤ ms) (hdg : decode cc pc = .ok (.ireturn, 1)) : W p l e R s m args below meth c H locs cells slots (vx_MQ below (xQi E A r0 σ1) XC args s mc ms A) (F0 m pc ls [.int v]) :=
  vx_ret (x_Lzret hexec hb hr hlocks hw hf hc hs hdg)
theorem x_Xzretc {v r0 : Int32} {σ1 : xSt} {mc ms : Nat} {XC : String → State → State → Prop} (hexec : p.tables.exec = Jvm.exec) (hb : c.code = cc) (hr : meth.sig.returnType = some .boolean) (hlocks : meth.locks = false) (hw : xw E A s.heap s σ H locs) (h01 : v = 0 ∨ v = 1) (hf : some (v, σ) = some (r0, σ1)) (hc : cells ≤ mc) (hs : slots ≤ ms) (hdg : decode cc pc = .ok (.ireturn, 1)) : W p l e R s m args below meth c H locs cells slots (vx_MQ below (xQi E A r0 σ1) XC args s mc ms A) (F0 m pc ls [.int v]) :=
  vx_ret (x_Lzretc hexec hb hr hlocks hw h01 hf hc hs hdg)
end XLR
theorem xLi_of {l : Launch} {y : MethodName} {ws ws' : List Cond} {rm : Room} {E : xE} {av : List Value} {σ : xSt} {r0 : Int32} {σ1 : xSt} {cc : ByteArray} {maxL mc ms : Nat} {ret : Option FieldType}
    (hy : plainName y.cls = true) (hws : ws = Cond.code y cc maxL ret :: ws') (hn : (lg_sl av).length ≤ maxL)
    (body : ∀ (p : Program) (e : Env) (s : State) (m : MethodId) (args : Array Value) (below : List Frame) (meth : Method) (c : Code) (A : Nat → Prop) (ls : Array Slot), xEn p s m args meth c cc maxL ret ws y → (∀ q, s.heap.size ≤ q → A q) → xGL E.g A s s.heap → xw E A s.heap s σ s.heap [] → lv_has ls maxL (lv_args 0 av) →
      W p l e rm s m args below meth c s.heap [] 0 0 (MQ below (xQi E A r0 σ1) args s mc ms A) (F0 m 0 ls [])) : xLi l y ws rm E av σ r0 σ1 mc ms := by
  intro sz
  refine Met.ofW (cc := cc) (maxL := maxL) (ret := ret) hy hws ?_
  intro p e s m args below meth c s₁ B hml hv
  obtain ⟨rfl, hsz, hP, hK, hD0, hG⟩ := hv
  subst hsz
  rw [lg_entry_eq]
  refine body p e s m _ below meth c _ _ ⟨B.exec, B.bytes, B.returns, hml, findClass_of_methodNamed B.named, atoms_spec (ws := ws) B.pre, B.notSynchronized⟩ (fun q h => Or.inr h) hG ⟨hK, hP, hD0.self, va_S.rf⟩ (lv_entry av hn)
theorem x_tab1 {c : Code} {a : Nat × Nat × Nat × Nat} (h : c.exceptionTable.toList.map (fun h => (h.startPc, h.endPc, h.handlerPc, h.catchType)) = [a]) : ∃ x1, c.exceptionTable.toList = [x1] ∧ (x1.startPc, x1.endPc, x1.handlerPc, x1.catchType) = a := by
  obtain ⟨x1, t1, e1, h1, h2⟩ := List.map_eq_cons_iff.mp h
  have := List.map_eq_nil_iff.mp h2
  subst this
  exact ⟨x1, e1, h1⟩
theorem xLx_of {l : Launch} {y : MethodName} {ws ws' : List Cond} {rm : Room} {E : xE} {av : List Value} {σ : xSt} {r0 : Int32} {σ1 : xSt} {cc : ByteArray} {maxL mc ms : Nat} {ret : Option FieldType} {hh : List (Nat × Nat × Nat × Nat)}
    (hy : plainName y.cls = true) (hws : ws = Cond.codeWith y cc maxL ret hh :: ws') (hn : (lg_sl av).length ≤ maxL)
    (body : ∀ (p : Program) (e : Env) (s : State) (m : MethodId) (args : Array Value) (below : List Frame) (meth : Method) (c : Code) (A : Nat → Prop) (ls : Array Slot), xEn p s m args meth c cc maxL ret ws y → (∀ q, s.heap.size ≤ q → A q) → xGL E.g A s s.heap → c.exceptionTable.toList.map (fun h => (h.startPc, h.endPc, h.handlerPc, h.catchType)) = hh → xw E A s.heap s σ s.heap [] → lv_has ls maxL (lv_args 0 av) →
      W p l e rm s m args below meth c s.heap [] 0 0 (vx_MQ below (xQi E A r0 σ1) (xXw A) args s mc ms A) (F0 m 0 ls [])) : xLx l y ws rm E av σ r0 σ1 mc ms := by
  intro sz
  refine vx_ofWH (cc := cc) (maxL := maxL) (ret := ret) hy hws ?_
  intro p e s m args below meth c s₁ B hml hv
  obtain ⟨rfl, hsz, hP, hK, hD0, hG⟩ := hv
  subst hsz
  rw [lg_entry_eq]
  have hts := atoms_spec (ws := ws) B.pre
  obtain ⟨m9, meth9, c9, hn9, h1, h2, h3, h4, htab, -, -, -⟩ := Cond.codeWith_spec (hts _ (by rw [hws]; exact List.mem_cons_self))
  cases B.named.symm.trans hn9
  cases Option.some.inj (h1.symm.trans B.method)
  cases Option.some.inj (h2.symm.trans (Stand.of_body B).code)
  exact body p e s m _ below meth c _ _ ⟨B.exec, B.bytes, B.returns, hml, findClass_of_methodNamed B.named, hts, B.notSynchronized⟩ (fun q h => Or.inr h) hG htab ⟨hK, hP, hD0.self, va_S.rf⟩ (lv_entry av hn)
/-! the fuels of loops in which something is made -/
def xF5 : Nat := 5
def xF6 : Nat := 6
def xF8 : Nat := 8
def xF9 : Nat := 9
def xF17 : Nat := 17
def xF22 : Nat := 22
def xF101 : Nat := 101
def xF10002 : Nat := 10002
