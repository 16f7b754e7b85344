/-! ===== ROWS OF ROWS: arrays of its own outside the law's world ===== -/
def xPlus (E : xE) (X : va_W) : xE := (E.D, E.a, E.cA, E.sh, E.ex ++ X, E.g)
theorem xPlus_W (E : xE) (X : va_W) (σ : xSt) : (xPlus E X).W σ = E.W σ ++ X := by
  show xW E.a E.cA E.sh σ (E.ex ++ X) = xW E.a E.cA E.sh σ E.ex ++ X
  unfold xW
  rw [List.append_assoc]
theorem xPlus_W2 (E : xE) (X Y : va_W) (σ : xSt) : (xPlus E (X ++ Y)).W σ = (xPlus E X).W σ ++ Y := by
  rw [xPlus_W, xPlus_W, List.append_assoc]
theorem xPlus_nil (E : xE) : xPlus E [] = E := by
  unfold xPlus
  rw [List.append_nil]
theorem xPlus_plus (E : xE) (X Y : va_W) : xPlus (xPlus E X) Y = xPlus E (X ++ Y) := by
  show (E.D, E.a, E.cA, E.sh, (E.ex ++ X) ++ Y, E.g) = (E.D, E.a, E.cA, E.sh, E.ex ++ (X ++ Y), E.g)
  rw [List.append_assoc]
theorem xPlus_LE {E : xE} {X : va_W} (h : xLE E) : xLE (xPlus E X) := h
def xlen (E : xE) (σ : xSt) : Nat := (E.W σ).length
theorem xPlus_at {E : xE} {X : va_W} {σ : xSt} {k : Nat} {q : Nat × va_E} (h : X[k]? = some q) : ((xPlus E X).W σ)[xlen E σ + k]? = some q := by
  rw [xPlus_W]
  show (E.W σ ++ X)[(E.W σ).length + k]? = some q
  rw [List.getElem?_append_right (Nat.le_add_right _ _), Nat.add_sub_cancel_left]
  exact h
theorem xPlus_mem {E : xE} {X : va_W} {σ : xSt} {q : Nat × va_E} (h : q ∈ X) : ∃ k : Nat, ((xPlus E X).W σ)[k]? = some q := by
  obtain ⟨k, hk⟩ := List.getElem?_of_mem h
  exact ⟨_, xPlus_at hk⟩
theorem xPlus_set {E : xE} {X : va_W} {σ : xSt} (k : Nat) (q : Nat × va_E) : ((xPlus E X).W σ).set (xlen E σ + k) q = (xPlus E (X.set k q)).W σ := by
  rw [xPlus_W, xPlus_W, List.set_append, if_neg (by unfold xlen; omega)]
  unfold xlen
  rw [Nat.add_sub_cancel_left]
abbrev xRef (cAA : ClassId) (n : Nat) (f : Nat → Option Nat) : va_E := .inl (cAA, n, .inr (.inr (.inr (.inr f))))
abbrev xInts (cA : ClassId) (n : Nat) (f : Nat → Int32) : va_E := .inl (cA, n, .inl f)
section XRX
variable {p : Program} {l : Launch} {e : Env} {R : Room} {s : State} {m : MethodId} {args : Array Value} {below : List Frame} {meth : Method} {c : Code} {H : Heap} {locs : List Loc} {cells slots : Nat} {Q : State → Prop}
variable {cc : ByteArray} {pc : Nat} {ls : Array Slot} {rest : List Value} {E : xE} {A : Nat → Prop} {H0 : Heap} {σ : xSt} {X : va_W}
/-- newarray int -/
theorem x_newX (hexec : p.tables.exec = Jvm.exec) (hb : c.code = cc) (harr : (Cond.arrayClass .int).before args s = true) (hw : xw (xPlus E X) A H0 s σ H locs) (hA : ∀ q, H0.size ≤ q → A q) {n : Int32} {N' : Nat} (hn : ¬ n < 0) (hN : n.toNatClampNeg = N') (hbytes : N' * 4 ≤ 536870912) (hcells : cells + 1 ≤ R.cells) (hslots : slots + N' ≤ R.slots) (hdg : decode cc pc = .ok (.newarray .int, 2))
    (kk : ∀ (q : Nat) (H1 : Heap), xw (xPlus E (X ++ [(q, xInts E.cA N' (fun _ => 0))])) A H0 s σ H1 locs → W p l e R s m args below meth c H1 locs (cells + 1) (slots + N') Q (F0 m (pc + 2) ls (.ref q :: rest))) : W p l e R s m args below meth c H locs cells slots Q (F0 m pc ls (.int n :: rest)) := by
  refine x_newi hexec hb harr hw.1 hw.2.1 hw.2.2.1 hw.2.2.2 hA hn hN hbytes hcells hslots hdg (fun q H1 hP hD hS => ?_)
  refine kk q H1 ⟨hw.1, ?_, ?_, hS⟩
  · rw [xPlus_W2]; exact hP
  · rw [xPlus_W2]; exact hD
/-- anewarray of rows of int -/
theorem x_newXX (hexec : p.tables.exec = Jvm.exec) (hb : c.code = cc) {own : String} {index : Nat} (hown : s.vm.findClass own = some m.cls) (hclink : (Cond.classLink own index "[I").before args s = true) (hover : xAOA s) (hw : xw (xPlus E X) A H0 s σ H locs) (hA : ∀ q, H0.size ≤ q → A q) {n : Int32} {N' : Nat} (hn : ¬ n < 0) (hN : n.toNatClampNeg = N') (hbytes : N' * 4 ≤ 536870912) (hcells : cells + 1 ≤ R.cells) (hslots : slots + N' ≤ R.slots) (hdg : decode cc pc = .ok (.anewarray index, 3))
    (kk : ∀ (q : Nat) (cAA : ClassId) (H1 : Heap), xKA cAA s → xw (xPlus E (X ++ [(q, xRef cAA N' (fun _ => none))])) A H0 s σ H1 locs → W p l e R s m args below meth c H1 locs (cells + 1) (slots + N') Q (F0 m (pc + 3) ls (.ref q :: rest))) : W p l e R s m args below meth c H locs cells slots Q (F0 m pc ls (.int n :: rest)) := by
  subst hN
  obtain ⟨hK, hP, hD, hS⟩ := hw
  refine W.anewA (t := .int) hexec hb hown (by rw [xAI_str]; exact hclink) (show (Cond.arrayOver (.array .int)).before args s = true from hover) rfl hdg rfl hn hbytes hcells hslots fun cA kA comp f1 f2 f3 f4 => ?_
  generalize hH1 : H.push ({ cls := cA, slots := Array.replicate n.toNatClampNeg .null, vm := .none } : Cell) = H1
  have z1 : H1.size = H.size + 1 := by rw [← hH1, Array.size_push]
  have e1 : H1[H.size]? = some (arrV cA n.toNatClampNeg (fun _ => .null)) := by rw [← hH1, Array.getElem?_push_size, ← arrV_new]
  have o1 : ∀ q : Nat, q < H.size → H1[q]? = H[q]? := fun q hq => by rw [← hH1, Array.getElem?_push, if_neg (Nat.ne_of_lt hq)]
  have hAr : ArrOfT s cA (.array .int) := fun N z => ⟨(fun k h => by cases h), kA, f2, comp, f3⟩
  have hk : ∀ (k : Nat) (x : Nat × va_E), ((xPlus E X).W σ)[k]? = some x → H1[x.1]? = H[x.1]? := fun k x hx => o1 x.1 ((hP k x hx).lt)
  refine kk H.size cA H1 ⟨hAr, by rw [← xAAI_str]; exact f1, kA, comp, f2, f3, by rw [← xAI_str]; exact f4⟩ ⟨hK, ?_, ?_, ⟨Nat.le_trans hS.1 (by omega), fun x h1 h2 => (o1 x (Nat.lt_of_lt_of_le h1 hS.1)).trans (hS.2.1 x h1 h2), hS.2.2⟩⟩
  · rw [xPlus_W2]
    refine (hP.kept hk).app (fun k x hx => ?_)
    have hz : k < 1 := (List.getElem?_eq_some_iff.mp hx).1
    rw [show k = 0 by omega] at hx
    cases hx
    show H1[H.size]? = some (vp_cell _ _)
    rw [vp_cell_q]
    exact e1
  · rw [xPlus_W2]
    exact hD.push hP rfl (hA _ hS.1)
/-- aaload -/
theorem x_ald (hexec : p.tables.exec = Jvm.exec) (hb : c.code = cc) {cAA : ClassId} (hKA : xKA cAA s) (hw : xw (xPlus E X) A H0 s σ H locs) {k a n : Nat} {f : Nat → Option Nat} (hx : X[k]? = some (a, xRef cAA n f)) {i : Int32} (hin : vp_in i n) (hdg : decode cc pc = .ok (.aaload, 1))
    (kk : W p l e R s m args below meth c H locs cells slots Q (F0 m (pc + 1) ls (va_rf (f i.toNatClampNeg) :: rest))) : W p l e R s m args below meth c H locs cells slots Q (F0 m pc ls (.int i :: .ref a :: rest)) := by
  have hlt : i.toNatClampNeg < n := Nat.not_le.mp fun q => hin (Or.inr q)
  exact W.aald (v := va_rf (f i.toNatClampNeg)) (ty := .array .int) hexec hb (hw.2.1 _ _ (xPlus_at hx)) (hKA.1 n (fun j => va_rf (f j))) rfl (fun q => by cases q) (by show ¬ (i < 0 ∨ (arrV _ _ _).slots.size ≤ _); rw [arrV_size]; exact hin) (by show (arrV _ _ _).slots[_]? = _; rw [arrV_read _ _ hlt]) rfl rfl hdg kk
/-- iaload of a row -/
theorem x_rld (hexec : p.tables.exec = Jvm.exec) (hb : c.code = cc) (hw : xw (xPlus E X) A H0 s σ H locs) {a n : Nat} {f : Nat → Int32} (hx : (a, xInts E.cA n f) ∈ X) {i : Int32} (hin : vp_in i n) (hdg : decode cc pc = .ok (.iaload, 1))
    (kk : W p l e R s m args below meth c H locs cells slots Q (F0 m (pc + 1) ls (.int (f i.toNatClampNeg) :: rest))) : W p l e R s m args below meth c H locs cells slots Q (F0 m pc ls (.int i :: .ref a :: rest)) := by
  obtain ⟨k, hk⟩ := xPlus_mem (E := E) (σ := σ) hx
  exact va_iald hexec hb hw.1 hw.2.1 k 0 (cA := E.cA) (n := n) (f := f) hk rfl hin hdg kk
/-- iastore into such an array -/
theorem x_rst (hexec : p.tables.exec = Jvm.exec) (hb : c.code = cc) (hw : xw (xPlus E X) A H0 s σ H locs) {k a n : Nat} {f : Nat → Int32} (hx : X[k]? = some (a, xInts E.cA n f)) {i v : Int32} (hin : vp_in i n) (hdg : decode cc pc = .ok (.iastore, 1))
    (kk : ∀ (H1 : Heap) (locs1 : List Loc), xw (xPlus E (X.set k (a, xInts E.cA n (upd f i.toNatClampNeg v)))) A H0 s σ H1 locs1 → W p l e R s m args below meth c H1 locs1 cells slots Q (F0 m (pc + 1) ls rest)) : W p l e R s m args below meth c H locs cells slots Q (F0 m pc ls (.int v :: .int i :: .ref a :: rest)) := by
  refine va_iast hexec hb hw.1 hw.2.1 hw.2.2.1 hw.2.2.2 (xlen E σ + k) 0 (cA := E.cA) (n := n) (f := f) (xPlus_at hx) rfl hin hdg (fun H1 locs1 hP hD hS => ?_)
  rw [xPlus_set] at hP hD
  exact kk H1 locs1 ⟨hw.1, hP, hD, hS⟩
/-- aastore of a row -/
theorem x_ast (hexec : p.tables.exec = Jvm.exec) (hb : c.code = cc) {cAA : ClassId} (hKA : xKA cAA s) (hw : xw (xPlus E X) A H0 s σ H locs) {k a n : Nat} {f : Nat → Option Nat} (hx : X[k]? = some (a, xRef cAA n f)) {v n2 : Nat} {f2 : Nat → Int32} (hv : (v, xInts E.cA n2 f2) ∈ X) {i : Int32} (hin : vp_in i n) (hdg : decode cc pc = .ok (.aastore, 1))
    (kk : ∀ (H1 : Heap) (locs1 : List Loc), xw (xPlus E (X.set k (a, xRef cAA n (va_up f i.toNatClampNeg (some v))))) A H0 s σ H1 locs1 → W p l e R s m args below meth c H1 locs1 cells slots Q (F0 m (pc + 1) ls rest)) : W p l e R s m args below meth c H locs cells slots Q (F0 m pc ls (.ref v :: .int i :: .ref a :: rest)) := by
  have hlt : i.toNatClampNeg < n := Nat.not_le.mp fun q => hin (Or.inr q)
  have h0 : ¬ i < 0 := fun q => hin (Or.inl q)
  obtain ⟨hA1, -, kA, comp, k1, k2, k3⟩ := hKA
  obtain ⟨hK, hP, hD, hS⟩ := hw
  have e1 : s.vm.findClass "[I" = some E.cA := by rw [← xI_str]; exact (hK.2 0 _ rfl).2
  obtain rfl : comp = E.cA := Option.some.inj (k3.symm.trans e1)
  obtain ⟨kE, hkE, -⟩ := Vm.findClass_spec e1
  obtain ⟨j, hj⟩ := xPlus_mem (E := E) (σ := σ) hv
  have hcv : H[v]? = some (vp_cell E.cA (n2, .inl f2)) := hP _ _ hj
  refine W.aast hexec hb (hP _ _ (xPlus_at hx)) (fun q h => by cases h) (fun h => by cases h) k1 k2 rfl hkE ⟨h0, by show _ < (arrV _ _ _).slots.size; rw [arrV_size]; exact hlt⟩ hcv (fun q h => by cases h) hkE (va_asg _ _) rfl rfl hdg fun H1 e z oq => ?_
  have hPx := hP.set hD (xPlus_at (E := E) (σ := σ) hx) (e := xRef cAA n (va_up f i.toNatClampNeg (some v))) (H1 := H1) (by
    show H1[a]? = some (vp_cell _ _)
    rw [e]
    rw [vp_cell_q, vp_cell_q, arrV_store]
    congr 2
    funext q
    by_cases hq : q = i.toNatClampNeg
    · subst hq
      simp [updV, va_up, va_rf]
    · simp [updV, va_up, hq]) oq
  have hDx := hD.set (xPlus_at (E := E) (σ := σ) hx) (e := xRef cAA n (va_up f i.toNatClampNeg (some v)))
  rw [xPlus_set] at hPx hDx
  exact kk H1 _ ⟨hK, hPx, hDx, hS.put z oq (hD.2 _ _ (xPlus_at hx))⟩
theorem x_aastN0 {T : State} (Y : Stand p l e R s m args below meth c T locs cells slots) (hexec : p.tables.exec = Jvm.exec) {a : Addr} {cell : Cell} {j : Int32} (hcell : T.heap[a]? = some cell) (harr : s.isArrayOf cell (.array .int)) (hknown : cell.vm ≠ .unknown)
    (hin : ¬ (j < 0 ∨ cell.slots.size ≤ j.toNatClampNeg))
    {g : JFrame} (hg : g.method = m) {rest : List Value} (hstack : g.stack = .null :: .int j :: .ref a :: rest) (hdg : decode c.code g.pc = .ok (.aastore, 1)) :
    Stand p l e R s m args below meth c (T.setCell a (cell.setSlot j.toNatClampNeg .null)) (locs ++ [⟨a, j.toNatClampNeg⟩]) cells slots ∧
      ∀ target, Steps p.tables e below ((T.setCell a (cell.setSlot j.toNatClampNeg .null)).setTop { g with pc := g.pc + 1, stack := rest }) target → Steps p.tables e below (T.setTop g) target := by
  have hT := State.isArrayOf_alike Y.warmed.alike harr
  have hfit : T.fitsSlot cell.cls cell.vm j.toNatClampNeg .null = true := by
    obtain ⟨hobj, k, hk, comp, hkind⟩ := hT
    cases hvm : cell.vm <;> first | exact absurd hvm (hobj _) | simp [State.fitsSlot, State.slotType?, hk, hkind, fits]
  refine ⟨Y.stored hcell _ _, fun target hrest => ?_⟩
  subst hg
  jvm_step Y.here [hexec, hdg]
  refine aastore.wp_of_null (c := cell) (t := .array .int) Y.here.top hstack hcell hT hin hknown (Nat.not_le.mp fun q => hin (Or.inr q)) hfit ?_
  intro acts
  rw [afterInstr_ok]
  exact hrest
theorem x_WaastN (hexec : p.tables.exec = Jvm.exec) (hb : c.code = cc) {a : Addr} {cell : Cell} {j : Int32} (hcell : H[a]? = some cell) (harr : s.isArrayOf cell (.array .int)) (hknown : cell.vm ≠ .unknown) (hin : ¬ (j < 0 ∨ cell.slots.size ≤ j.toNatClampNeg))
    {g : JFrame} (hg : g.method = m) {rest : List Value} (hstack : g.stack = .null :: .int j :: .ref a :: rest) (hdg : decode cc g.pc = .ok (.aastore, 1))
    (kk : ∀ H' : Heap, H'[a]? = some (cell.setSlot j.toNatClampNeg .null) → H'.size = H.size → (∀ q, q ≠ a → H'[q]? = H[q]?) → W p l e R s m args below meth c H' (locs ++ [⟨a, j.toNatClampNeg⟩]) cells slots Q { g with pc := g.pc + 1, stack := rest }) :
    W p l e R s m args below meth c H locs cells slots Q g := by
  intro T hT Y
  have hT' : T.heap[a]? = some cell := by rw [hT]; exact hcell
  obtain ⟨X', st⟩ := x_aastN0 Y hexec hT' harr hknown hin hg hstack (by rw [hb]; exact hdg)
  have hlt : a < T.heap.size := (Array.getElem?_eq_some_iff.mp hT').1
  obtain ⟨t', a1, b1⟩ := kk _ (heapAt_setCell_self _ hlt) (by rw [size_setCell, hT]) (fun q hq => by rw [heapAt_setCell_ne _ (Ne.symm hq), hT]) (T.setCell a (cell.setSlot j.toNatClampNeg .null)) rfl X'
  exact ⟨t', st t' a1, b1⟩
/-- aastore of null -/
theorem x_asn (hexec : p.tables.exec = Jvm.exec) (hb : c.code = cc) {cAA : ClassId} (hKA : xKA cAA s) (hw : xw (xPlus E X) A H0 s σ H locs) {k a n : Nat} {f : Nat → Option Nat} (hx : X[k]? = some (a, xRef cAA n f)) {i : Int32} (hin : vp_in i n) (hdg : decode cc pc = .ok (.aastore, 1))
    (kk : ∀ (H1 : Heap) (locs1 : List Loc), xw (xPlus E (X.set k (a, xRef cAA n (va_up f i.toNatClampNeg none)))) A H0 s σ H1 locs1 → W p l e R s m args below meth c H1 locs1 cells slots Q (F0 m (pc + 1) ls rest)) : W p l e R s m args below meth c H locs cells slots Q (F0 m pc ls (.null :: .int i :: .ref a :: rest)) := by
  obtain ⟨hK, hP, hD, hS⟩ := hw
  refine x_WaastN hexec hb (hP _ _ (xPlus_at hx)) (hKA.1 n (fun j => va_rf (f j))) (fun h => by cases h) (by show ¬ (i < 0 ∨ (arrV _ _ _).slots.size ≤ _); rw [arrV_size]; exact hin) rfl rfl hdg fun H1 e z oq => ?_
  have hPx := hP.set hD (xPlus_at (E := E) (σ := σ) hx) (e := xRef cAA n (va_up f i.toNatClampNeg none)) (H1 := H1) (by
    show H1[a]? = some (vp_cell _ _)
    rw [e]
    rw [vp_cell_q, vp_cell_q, arrV_store]
    congr 2
    funext q
    by_cases hq : q = i.toNatClampNeg
    · subst hq
      simp [updV, va_up, va_rf]
    · simp [updV, va_up, hq]) oq
  have hDx := hD.set (xPlus_at (E := E) (σ := σ) hx) (e := xRef cAA n (va_up f i.toNatClampNeg none))
  rw [xPlus_set] at hPx hDx
  exact kk H1 _ ⟨hK, hPx, hDx, hS.put z oq (hD.2 _ _ (xPlus_at hx))⟩
end XRX
theorem xKA.eq {a b : ClassId} {s : State} (h : xKA a s) (h' : xKA b s) : a = b := Option.some.inj (h.2.1.symm.trans h'.2.1)
/-! a method that answers a row of two, or null -/
def xatB (E : xE) (A : Nat → Prop) (σ1 : xSt) (o : Option (Int32 × Int32)) (u : Option Nat) (t : State) : Prop := match u with
  | none => o = none ∧ xat E A σ1 t
  | some q => ∃ x y, o = some (x, y) ∧ xat (xPlus E [(q, xInts E.cA 2 (upd (upd (fun _ => 0) 0 x) 1 y))]) A σ1 t
abbrev xQb (E : xE) (A : Nat → Prop) (o : Option (Int32 × Int32)) (σ1 : xSt) : Array Value → State → Outcome → State → Prop := va_Qq (S := Option Nat) (fun r u => r = u) (fun u t => xatB E A σ1 o u t) A
def xLb (l : Launch) (y : MethodName) (ws : List Cond) (rm : Room) (E : xE) (av : List Value) (σ : xSt) (o : Option (Int32 × Int32)) (σ1 : xSt) (mc ms : Nat) : Prop := ∀ sz : Nat, Met l y ws rm (xPreL E av σ sz) (xQb E (va_A (E.W σ) sz) o σ1) mc ms (va_A (E.W σ) sz)
section XRB
variable {p : Program} {l : Launch} {e : Env} {R : Room} {s : State} {m : MethodId} {args : Array Value} {below : List Frame} {meth : Method} {c : Code} {H : Heap} {locs : List Loc} {cells slots : Nat} {Q : State → Prop}
variable {cc : ByteArray} {pc : Nat} {ls : Array Slot} {rest : List Value} {E : xE} {A : Nat → Prop} {H0 : Heap} {σ : xSt}
theorem x_Bnull {o1 : Option (Int32 × Int32)} {o2 : xSt} {mc ms : Nat} (hexec : p.tables.exec = Jvm.exec) (hb : c.code = cc) (hr : meth.sig.returnType = some (.array .int)) (hlocks : meth.locks = false) (hw : xw E A s.heap s σ H locs) (hf : some ((none : Option (Int32 × Int32)), σ) = some (o1, o2)) (hc : cells ≤ mc) (hs : slots ≤ ms) (hdg : decode cc pc = .ok (.areturn, 1)) : W p l e R s m args below meth c H locs cells slots (MQ below (xQb E A o1 o2) args s mc ms A) (F0 m pc ls [.null]) := by
  obtain ⟨rfl, rfl⟩ := Prod.mk.inj (Option.some.inj hf)
  exact W.widen hc hs (W.aret hexec hb hr (Or.inr ⟨_, rfl⟩) (Or.inl rfl) (fun t ht hW => ⟨⟨none, none, rfl, rfl, rfl, by rw [ht]; exact hw.2.1, va_K.moved hW.alike hw.1, hw.2.2.1⟩, hw.2.2.2.F ht⟩) hw.2.2.2.2.2 hdg hlocks)
theorem x_Brow {x y : Int32} {q : Nat} {o1 : Option (Int32 × Int32)} {o2 : xSt} {mc ms : Nat} (hexec : p.tables.exec = Jvm.exec) (hb : c.code = cc) (hr : meth.sig.returnType = some (.array .int)) (hlocks : meth.locks = false) (hw : xw (xPlus E [(q, xInts E.cA 2 (upd (upd (fun _ => 0) 0 x) 1 y))]) A s.heap s σ H locs) (hf : some (some (x, y), σ) = some (o1, o2)) (hc : cells ≤ mc) (hs : slots ≤ ms) (hdg : decode cc pc = .ok (.areturn, 1)) : W p l e R s m args below meth c H locs cells slots (MQ below (xQb E A o1 o2) args s mc ms A) (F0 m pc ls [.ref q]) := by
  obtain ⟨rfl, rfl⟩ := Prod.mk.inj (Option.some.inj hf)
  exact W.widen hc hs (W.aret hexec hb hr (Or.inr ⟨_, rfl⟩) (Or.inr ⟨q, rfl⟩) (fun t ht hW => ⟨⟨some q, some q, rfl, rfl, x, y, rfl, by rw [ht]; exact hw.2.1, va_K.moved hW.alike hw.1, hw.2.2.1⟩, hw.2.2.2.F ht⟩) hw.2.2.2.2.2 hdg hlocks)
/-- its call -/
theorem x_callB {av : Array Value} {o : Option (Int32 × Int32)} {σ1 : xSt} {st0 : List Value} {mc ms : Nat} (hr : va_Run p l e R s m args below meth c H locs cells slots mc ms (F0 m pc ls st0) rest (xQb E (va_A (E.W σ) H.size) o σ1 av) (va_A (E.W σ) H.size)) (hw : xw E A H0 s σ H locs) (hA : ∀ q, H0.size ≤ q → A q)
    (k0 : ∀ (H1 : Heap) (locs1 : List Loc), o = none → xw E A H0 s σ1 H1 locs1 → W p l e R s m args below meth c H1 locs1 (cells + mc) (slots + ms) Q (F0 m (pc + 3) ls (.null :: rest)))
    (k1 : ∀ (q : Nat) (x y : Int32) (H1 : Heap) (locs1 : List Loc), o = some (x, y) → xw (xPlus E [(q, xInts E.cA 2 (upd (upd (fun _ => 0) 0 x) 1 y))]) A H0 s σ1 H1 locs1 → W p l e R s m args below meth c H1 locs1 (cells + mc) (slots + ms) Q (F0 m (pc + 3) ls (.ref q :: rest))) : W p l e R s m args below meth c H locs cells slots Q (F0 m pc ls st0) := by
  refine va_callq hr hw.2.2.2 (fun q _ h => hw.free hA q h) (hw.free hA) (fun r u t H1 locs1 ht hvm hpost hB hz1 hk1 hS1 => ?_)
  subst hpost
  cases r with
  | none =>
    obtain ⟨ho, hP1, hK1, hD1⟩ := hB
    rw [ht] at hP1
    exact k0 H1 locs1 ho ⟨hw.1, hP1, xD_of (E.fst σ σ1) hw.2.2.1, hS1⟩
  | some q =>
    obtain ⟨x, y, ho, hP1, hK1, hD1⟩ := hB
    rw [ht] at hP1
    exact k1 q x y H1 locs1 ho ⟨hw.1, hP1, ⟨hD1.1, fun k z hk => hw.free hA _ (hD1.2 k z hk)⟩, hS1⟩
end XRB
theorem xLb_of {l : Launch} {y : MethodName} {ws ws' : List Cond} {rm : Room} {E : xE} {av : List Value} {σ : xSt} {r0 : Option (Int32 × Int32)} {σ1 : xSt} {cc : ByteArray} {maxL mc ms : Nat} {ret : Option FieldType}
    (hy : plainName y.cls = true) (hws : ws = Cond.code y cc maxL ret :: ws') (hn : (lg_sl av).length ≤ maxL)
    (body : ∀ (p : Program) (e : Env) (s : State) (m : MethodId) (args : Array Value) (below : List Frame) (meth : Method) (c : Code) (A : Nat → Prop) (ls : Array Slot), xEn p s m args meth c cc maxL ret ws y → (∀ q, s.heap.size ≤ q → A q) → xGL E.g A s s.heap → xw E A s.heap s σ s.heap [] → lv_has ls maxL (lv_args 0 av) →
      W p l e rm s m args below meth c s.heap [] 0 0 (MQ below (xQb E A r0 σ1) args s mc ms A) (F0 m 0 ls [])) : xLb l y ws rm E av σ r0 σ1 mc ms := by
  intro sz
  refine Met.ofW (cc := cc) (maxL := maxL) (ret := ret) hy hws ?_
  intro p e s m args below meth c s₁ B hml hv
  obtain ⟨rfl, hsz, hP, hK, hD0, hG⟩ := hv
  subst hsz
  rw [lg_entry_eq]
  refine body p e s m _ below meth c _ _ ⟨B.exec, B.bytes, B.returns, hml, findClass_of_methodNamed B.named, atoms_spec (ws := ws) B.pre, B.notSynchronized⟩ (fun q h => Or.inr h) hG ⟨hK, hP, hD0.self, va_S.rf⟩ (lv_entry av hn)
/-! the rows that an array of rows holds -/
def xB (cA n : Nat) (bs : Nat → Option (Int32 × Int32)) (f : Nat → Option Nat) (rows : va_W) : Prop := ∀ j, j < n → (bs j = none ∧ f j = none) ∨ ∃ x y q, bs j = some (x, y) ∧ f j = some q ∧ (q, xInts cA 2 (upd (upd (fun _ => 0) 0 x) 1 y)) ∈ rows
theorem xB_at {cA n : Nat} {bs : Nat → Option (Int32 × Int32)} {f : Nat → Option Nat} {rows : va_W} (h : xB cA n bs f rows) {i : Int32} (hi : vp_in i n) : (bs i.toNatClampNeg = none ∧ va_rf (f i.toNatClampNeg) = .null) ∨ ∃ x y q, bs i.toNatClampNeg = some (x, y) ∧ va_rf (f i.toNatClampNeg) = .ref q ∧ (q, xInts cA 2 (upd (upd (fun _ => 0) 0 x) 1 y)) ∈ rows := by
  rcases h _ (Nat.not_le.mp fun q => hi (Or.inr q)) with ⟨h1, h2⟩ | ⟨x, y, q, h1, h2, h3⟩
  · exact Or.inl ⟨h1, by rw [h2]; rfl⟩
  · exact Or.inr ⟨x, y, q, h1, by rw [h2]; rfl, h3⟩
theorem xB_0 (cA n : Nat) : xB cA n (fun _ => none) (fun _ => none) [] := fun _ _ => Or.inl ⟨rfl, rfl⟩
def xbu (bs : Nat → Option (Int32 × Int32)) (k : Nat) (o : Option (Int32 × Int32)) : Nat → Option (Int32 × Int32) := fun j => if j = k then o else bs j
theorem xB_none {cA n : Nat} {bs : Nat → Option (Int32 × Int32)} {f : Nat → Option Nat} {rows : va_W} (h : xB cA n bs f rows) (k : Nat) : xB cA n (xbu bs k none) (va_up f k none) rows := by
  intro j hj
  by_cases e : j = k
  · exact Or.inl ⟨by unfold xbu; rw [if_pos e], by unfold va_up; rw [if_pos e]⟩
  · have e1 : xbu bs k none j = bs j := by unfold xbu; rw [if_neg e]
    have e2 : va_up f k none j = f j := by unfold va_up; rw [if_neg e]
    rw [e1, e2]
    exact h j hj
theorem xB_some {cA n : Nat} {bs : Nat → Option (Int32 × Int32)} {f : Nat → Option Nat} {rows : va_W} (h : xB cA n bs f rows) (k : Nat) (x y : Int32) (q : Nat) : xB cA n (xbu bs k (some (x, y))) (va_up f k (some q)) (rows ++ [(q, xInts cA 2 (upd (upd (fun _ => 0) 0 x) 1 y))]) := by
  intro j hj
  by_cases e : j = k
  · exact Or.inr ⟨x, y, q, by unfold xbu; rw [if_pos e], by unfold va_up; rw [if_pos e], List.mem_append_right _ List.mem_cons_self⟩
  · have e1 : xbu bs k (some (x, y)) j = bs j := by unfold xbu; rw [if_neg e]
    have e2 : va_up f k (some q) j = f j := by unfold va_up; rw [if_neg e]
    rw [e1, e2]
    rcases h j hj with h1 | ⟨a, b, r, h1, h2, h3⟩
    · exact Or.inl h1
    · exact Or.inr ⟨a, b, r, h1, h2, List.mem_append_left _ h3⟩
/-- a read of a row in the law's words -/
def xrow {β : Type} (bs : Nat → Option (Int32 × Int32)) (n : Nat) (i : Int32) (a : Option β) (b : Int32 → Int32 → Option β) : Option β := if xin i n = true then (match bs i.toNatClampNeg with | none => a | some (x, y) => b x y) else none
theorem xrow_f {β : Type} {bs : Nat → Option (Int32 × Int32)} {n : Nat} {i : Int32} {a : Option β} {b : Int32 → Int32 → Option β} {o : β} (h : xrow bs n i a b = some o) : vp_in i n ∧ (bs i.toNatClampNeg = none → a = some o) ∧ ∀ x y, bs i.toNatClampNeg = some (x, y) → b x y = some o := by
  unfold xrow at h
  split at h
  · rename_i h1
    refine ⟨xin_vp h1, fun e => ?_, fun x y e => ?_⟩
    · rw [e] at h; exact h
    · rw [e] at h; exact h
  · cases h
def xsz {β : Type} (v : Int32) (K : Nat → Option β) : Option β := if ¬ v < 0 ∧ v.toNatClampNeg ≤ 20 then K v.toNatClampNeg else none
theorem xsz_f {β : Type} {v : Int32} {K : Nat → Option β} {o : β} (h : xsz v K = some o) : ¬ v < 0 ∧ v.toNatClampNeg ≤ 20 ∧ ∀ n, n = v.toNatClampNeg → K n = some o := by
  unfold xsz at h
  split at h
  · rename_i h1; exact ⟨h1.1, h1.2, fun _ e => by rw [e]; exact h⟩
  · cases h
theorem xsz_t {β : Type} {v : Int32} {K : Nat → Option β} (h : ¬ v < 0 ∧ v.toNatClampNeg ≤ 20) : xsz v K = K v.toNatClampNeg := if_pos h
def xbs {β : Type} (n : Nat) (i : Int32) (K : Option β) : Option β := if xin i n = true then K else none
theorem xbs_e {β : Type} {n : Nat} {i : Int32} {K : Option β} {o : β} (h : xbs n i K = some o) : vp_in i n ∧ K = some o := by
  unfold xbs at h
  split at h
  · rename_i h1; exact ⟨xin_vp h1, h⟩
  · cases h
theorem xbs_t {β : Type} {n : Nat} {i : Int32} {K : Option β} (h : xin i n = true) : xbs n i K = K := if_pos h
theorem xw_drop {E : xE} {A : Nat → Prop} {H0 : Heap} {s : State} {σ : xSt} {X : va_W} {H : Heap} {locs : List Loc} (hw : xw (xPlus E X) A H0 s σ H locs) : xw E A H0 s σ H locs := by
  have up : ∀ {k : Nat} {q : Nat × va_E}, (E.W σ)[k]? = some q → ((xPlus E X).W σ)[k]? = some q := fun hk => by
    rw [xPlus_W, List.getElem?_append_left (List.getElem?_eq_some_iff.mp hk).1]
    exact hk
  exact ⟨hw.1, fun k q hk => hw.2.1 k q (up hk), ⟨fun i j p q hi hj => hw.2.2.1.1 i j p q (up hi) (up hj), fun k q hk => hw.2.2.1.2 k q (up hk)⟩, hw.2.2.2⟩
