/-! ===== THE LAW'S BEGINNING: what a fresh object holds, the given things ===== -/
def iniN : Nat → Int32 := upd (upd (upd (upd (upd (upd (upd (upd (upd (upd (upd (upd (upd (upd (upd (upd (fun _ => 0) 1 2) 2 20) 3 20) 4 2) 247 100) 251 50) 255 100) 248 100) 252 50) 256 100) 249 100) 253 50) 257 100) 250 100) 254 50) 258 100
def iniX : xSt := fun q => match q with
  | 10 => upd (upd (upd (upd (upd (upd (fun _ => 0) 0 20) 1 20) 2 20) 3 20) 4 20) 5 20
  | 20 => fun j => match j with
    | 1 => 2
    | 2 => 2
    | 3 => 20
    | 4 => 20
    | _ => 0
  | 30 => upd (upd (upd (upd (fun _ => 0) 0 100) 1 100) 2 100) 3 100
  | 31 => upd (upd (upd (upd (fun _ => 0) 0 50) 1 50) 2 50) 3 50
  | 32 => upd (upd (upd (upd (fun _ => 0) 0 100) 1 100) 2 100) 3 100
  | _ => fun _ => 0
def iniA (h0 : Nat) (u : Nat → Nat) : Nat → Nat := fun k => match k with
  | 0 => h0
  | 1 => u 50
  | j + 2 => u j
def aLaw (h0 : Nat) (u v : Nat → Nat) : Nat → Nat := fun k => if k < 52 then iniA (v 0) u k else match k with
  | 52 => h0
  | 53 => v 5
  | 54 => v 1
  | 55 => v 2
  | 56 => v 3
  | _ => v 4
def iniL (x : Int32) : xSt := fun q => if q < 52 then iniX q else match q with
  | 53 => fun _ => x
  | _ => fun _ => 0
theorem perm_last {α : Type} (k : Nat) : ∀ (L : List α), (L.take 1 ++ (L.drop (k + 1) ++ (L.drop 1).take k)).Perm L
  | [] => by simp
  | a :: t => by
    have h : (t.drop k ++ t.take k).Perm t := by
      have h9 := List.perm_append_comm (l₁ := t.drop k) (l₂ := t.take k)
      rw [List.take_append_drop] at h9
      exact h9
    exact List.Perm.cons a h
def lawO (v : Nat → Nat) : va_E := .inr (13, [.ref (v 0), .ref (v 5), .int 0, .int 0, .int 0, .int 0, .ref (v 1), .ref (v 2), .ref (v 3), .ref (v 4)])
set_option maxRecDepth 100000 in
set_option maxHeartbeats 8000000 in
theorem iniL_W (cA : ClassId) (h0 : Nat) (u v : Nat → Nat) (x : Int32) : xW (aLaw h0 u v) cA (shX ++ shLw) (iniL x) [] = ((wX11_init cA (v 0) u).take 1 ++ ((wX11_init cA (v 0) u).drop 51 ++ ((wX11_init cA (v 0) u).drop 1).take 50)) ++ [(h0, lawO v), (v 5, .inr (12, [.int x])), (v 1, .inl (cA, 4, .inl (fun _ => 0))), (v 2, .inl (cA, 4, .inl (fun _ => 0))), (v 3, .inl (cA, 4, .inl (fun _ => 0))), (v 4, .inl (cA, 4, .inl (fun _ => 0)))] := by
  unfold xW shX shLw
  simp only [List.cons_append, List.nil_append, List.mapIdx_cons, List.mapIdx_nil, Nat.reduceAdd, Nat.zero_add]
  rfl
theorem iniL_perm (cA : ClassId) (h0 : Nat) (u v : Nat → Nat) (x : Int32) : (wL_init cA h0 u v x).Perm (xW (aLaw h0 u v) cA (shX ++ shLw) (iniL x) []) := by
  rw [iniL_W]
  have p1 := perm_last 50 (wX11_init cA (v 0) u)
  unfold wL_init
  generalize wX11_init cA (v 0) u = W1 at p1 ⊢
  generalize ((v 1, (.inl (cA, 4, .inl (fun _ => 0)) : va_E)) : Nat × va_E) = e1
  generalize ((v 2, (.inl (cA, 4, .inl (fun _ => 0)) : va_E)) : Nat × va_E) = e2
  generalize ((v 3, (.inl (cA, 4, .inl (fun _ => 0)) : va_E)) : Nat × va_E) = e3
  generalize ((v 4, (.inl (cA, 4, .inl (fun _ => 0)) : va_E)) : Nat × va_E) = e4
  generalize ((v 5, (.inr (12, [.int x]) : va_E)) : Nat × va_E) = e5
  show List.Perm ((h0, lawO v) :: (((((W1 ++ [e1]) ++ [e2]) ++ [e3]) ++ [e4]) ++ [e5])) _
  generalize ((h0, lawO v) : Nat × va_E) = e0
  have h1 : ((((W1 ++ [e1]) ++ [e2]) ++ [e3]) ++ [e4]) ++ [e5] = W1 ++ [e1, e2, e3, e4, e5] := by simp
  rw [h1]
  have h2 : List.Perm [e1, e2, e3, e4, e5] [e5, e1, e2, e3, e4] := List.perm_append_comm (l₁ := [e1, e2, e3, e4]) (l₂ := [e5])
  have h3 : List.Perm (e0 :: (W1 ++ [e1, e2, e3, e4, e5])) (W1 ++ (e0 :: [e1, e2, e3, e4, e5])) := List.perm_middle.symm
  exact h3.trans (List.Perm.append p1.symm (List.Perm.cons e0 h2))
theorem x_D_nodup {A : Nat → Prop} {a : va_W} (h : va_D A a) : (a.map Prod.fst).Nodup := by
  unfold List.Nodup
  rw [List.pairwise_iff_getElem]
  intro i j hi hj hij he
  rw [List.length_map] at hi hj
  rw [List.getElem_map, List.getElem_map] at he
  have := h.1 i j _ _ (List.getElem?_eq_getElem hi) (List.getElem?_eq_getElem hj) he
  omega
theorem x_perm_D {A : Nat → Prop} {a b : va_W} (h : va_D A a) (hp : a.Perm b) : va_D A b := by
  have hn : (b.map Prod.fst).Nodup := (hp.map Prod.fst).nodup_iff.mp (x_D_nodup h)
  refine ⟨fun i j p q hp1 hq1 hpq => ?_, fun k q hk => ?_⟩
  · have hi : i < (b.map Prod.fst).length := by rw [List.length_map]; exact (List.getElem?_eq_some_iff.mp hp1).1
    refine (List.getElem?_inj hi hn).mp ?_
    rw [List.getElem?_map, List.getElem?_map, hp1, hq1]
    show some p.1 = some q.1
    rw [hpq]
  · obtain ⟨i, hi⟩ := List.getElem?_of_mem (hp.mem_iff.mpr (List.mem_of_getElem? hk))
    exact h.2 i q hi
theorem ini_c : cR iniN = 0 ∧ cD iniN = 0 ∧ cS iniN = 0 ∧ ∀ r, r < 6 → cN iniN r = 0 := by
  unfold cR cD cS cN
  decide +kernel
theorem ini_pg : pgS iniX iniN := by
  unfold pgS cR
  decide +kernel
theorem ini_RX : RX iniX ([], iniN, (fun _ => 0), 0) := by
  obtain ⟨hR, hD, hS, hN⟩ := ini_c
  refine ⟨ini_pg, ⟨?_, ?_, ?_, ?_, ?_, ?_, ?_, ?_, ?_, ?_, ?_, ?_, ?_, ?_⟩, ⟨Nat.zero_le _, rfl, 0, by decide, rfl, fun i x h => by simp at h⟩, ⟨rfl, rfl⟩, ⟨Nat.zero_le _, rfl, fun k hk => absurd hk (Nat.not_lt_zero k)⟩⟩
  · intro k hk; have hk : k < cR iniN := hk; rw [hR] at hk; exact absurd hk (Nat.not_lt_zero k)
  · intro k hk; have hk : k < cR iniN := hk; rw [hR] at hk; exact absurd hk (Nat.not_lt_zero k)
  · intro k hk; have hk : k < cR iniN := hk; rw [hR] at hk; exact absurd hk (Nat.not_lt_zero k)
  · intro k hk; have hk : k < cR iniN := hk; rw [hR] at hk; exact absurd hk (Nat.not_lt_zero k)
  · intro k hk; have hk : k < cR iniN := hk; rw [hR] at hk; exact absurd hk (Nat.not_lt_zero k)
  · intro k hk; have hk : k < cD iniN := hk; rw [hD] at hk; exact absurd hk (Nat.not_lt_zero k)
  · intro k hk; have hk : k < cD iniN := hk; rw [hD] at hk; exact absurd hk (Nat.not_lt_zero k)
  · intro k hk; have hk : k < cS iniN := hk; rw [hS] at hk; exact absurd hk (Nat.not_lt_zero k)
  · intro k hk; have hk : k < cS iniN := hk; rw [hS] at hk; exact absurd hk (Nat.not_lt_zero k)
  · intro k hk; have hk : k < cS iniN := hk; rw [hS] at hk; exact absurd hk (Nat.not_lt_zero k)
  · intro k hk; have hk : k < cS iniN := hk; rw [hS] at hk; exact absurd hk (Nat.not_lt_zero k)
  · intro k hk; have hk : k < cS iniN := hk; rw [hS] at hk; exact absurd hk (Nat.not_lt_zero k)
  · intro k hk; have hk : k < cD iniN := hk; rw [hD] at hk; exact absurd hk (Nat.not_lt_zero k)
  · intro r hr k hk; have hk : k < cN iniN r := hk; rw [hN r hr] at hk; exact absurd hk (Nat.not_lt_zero k)
theorem ini_caps : caps iniN := by
  obtain ⟨hR, hD, hS, hN⟩ := ini_c
  refine ⟨by rw [hR]; decide, by rw [hD]; decide, by rw [hS]; decide, fun r hr => by rw [hN r hr]; decide, fun k hk => ?_, by rw [hR]; decide +kernel, by rw [hD]; decide +kernel, by rw [hS]; decide +kernel, fun r hr => ?_⟩
  · rw [hD] at hk; exact absurd hk (Nat.not_lt_zero k)
  · rw [hN r hr]
    have h : ∀ r, r < 6 → iniN (259 + r) = nI 0 := by decide +kernel
    exact h r hr
theorem ini_Inv : Inv 0 iniN := by
  obtain ⟨hR, hD, hS, hN⟩ := ini_c
  refine ⟨ini_caps, ?_, ⟨fun k hk => ?_, ?_⟩, fun k hk => ?_, ?_, ?_, fun r hr k hk => ?_, fun k hk => ?_, ?_, ?_, ?_, ?_, ?_⟩
  · unfold iOven bt; decide +kernel
  · rw [hR] at hk; exact absurd hk (Nat.not_lt_zero k)
  · unfold bt; decide +kernel
  · rw [hD] at hk; exact absurd hk (Nat.not_lt_zero k)
  · intro k hk
    have h : ∀ k, k < 24 → iniN (223 + k) = 0 := by decide +kernel
    rw [h k hk]
    exact ⟨by decide, fun _ => rfl⟩
  · unfold iFlour bt; decide +kernel
  · rw [hN r hr] at hk; exact absurd hk (Nat.not_lt_zero k)
  · rw [hS] at hk; exact absurd hk (Nat.not_lt_zero k)
  · unfold led; rw [hD, hR]; decide +kernel
  · decide +kernel
  · decide +kernel
  · decide +kernel
  · decide +kernel
theorem ini_GH : GH 0 ([], iniN, (fun _ => 0), 0) := ⟨ini_Inv, fun x hx => absurd hx List.not_mem_nil, trivial⟩
theorem ini_bw : ∀ w ∈ xBW ++ xBJ, w ∈ lw_tbl := by decide +kernel
theorem ini_pts {args : Array Value} {s : State} {A : Nat → Prop} (hts : ∀ w ∈ lw_tbl, w.before args s = true) (hgv : (Jvm.Cond.and given_1 narrow_1).before args s = true) (hA : ∀ a : Nat, a < s.heap.size → ¬ A a) : ∃ g : Nat, va_Z RX5 "POINTS_OF_WARMTH" "[I" (.ref g) A s s.heap ∧ va_T .int g 6 (fun j => .int (xPts j)) A s s.heap := by
  have hs := flat_of_before _ hgv
  have he : ∀ j : Nat, j < 6 → (Term.elem (.static RX5 "POINTS_OF_WARMTH" "[I") (.int (Int32.ofNat j))).eval args s none [] s = some (.int (xPts j)) := by
    intro j hj
    rcases (show j = 0 ∨ j = 1 ∨ j = 2 ∨ j = 3 ∨ j = 4 ∨ j = 5 by omega) with rfl | rfl | rfl | rfl | rfl | rfl
    · exact va_eqt (hs (.eq (.elem (.static RX5 "POINTS_OF_WARMTH" "[I") (.int 0)) (.int 0)) (by decide +kernel))
    · exact va_eqt (hs (.eq (.elem (.static RX5 "POINTS_OF_WARMTH" "[I") (.int 1)) (.int 1)) (by decide +kernel))
    · exact va_eqt (hs (.eq (.elem (.static RX5 "POINTS_OF_WARMTH" "[I") (.int 2)) (.int 2)) (by decide +kernel))
    · exact va_eqt (hs (.eq (.elem (.static RX5 "POINTS_OF_WARMTH" "[I") (.int 3)) (.int 4)) (by decide +kernel))
    · exact va_eqt (hs (.eq (.elem (.static RX5 "POINTS_OF_WARMTH" "[I") (.int 4)) (.int 6)) (by decide +kernel))
    · exact va_eqt (hs (.eq (.elem (.static RX5 "POINTS_OF_WARMTH" "[I") (.int 5)) (.int 3)) (by decide +kernel))
  obtain ⟨g, h1, h2⟩ := va_Tof (f := fun j => .int (xPts j)) (A := A) (show 6 < 2 ^ 31 by decide) (hs (.arrayOf (.static RX5 "POINTS_OF_WARMTH" "[I") .int) (by decide +kernel)) (va_eqt (z := 6) (hs (.eq (.length (.static RX5 "POINTS_OF_WARMTH" "[I")) (.int 6)) (by decide +kernel))) he hA
  exact ⟨g, va_Zof (hts (.laysStatic RX5 "POINTS_OF_WARMTH" "[I") (by decide +kernel)) (hts (.initialized RX5) (by decide +kernel)) h1 hA, h2⟩
theorem ini_pri {args : Array Value} {s : State} {A : Nat → Prop} (hts : ∀ w ∈ lw_tbl, w.before args s = true) (hgv : (Jvm.Cond.and given_1 narrow_1).before args s = true) (hA : ∀ a : Nat, a < s.heap.size → ¬ A a) : ∃ g : Nat, va_Z RX9 "PRICES" "[I" (.ref g) A s s.heap ∧ va_T .int g 4 (fun j => .int (xPri j)) A s s.heap := by
  have hs := flat_of_before _ hgv
  have he : ∀ j : Nat, j < 4 → (Term.elem (.static RX9 "PRICES" "[I") (.int (Int32.ofNat j))).eval args s none [] s = some (.int (xPri j)) := by
    intro j hj
    rcases (show j = 0 ∨ j = 1 ∨ j = 2 ∨ j = 3 by omega) with rfl | rfl | rfl | rfl
    · exact va_eqt (hs (.eq (.elem (.static RX9 "PRICES" "[I") (.int 0)) (.int 3)) (by decide +kernel))
    · exact va_eqt (hs (.eq (.elem (.static RX9 "PRICES" "[I") (.int 1)) (.int 5)) (by decide +kernel))
    · exact va_eqt (hs (.eq (.elem (.static RX9 "PRICES" "[I") (.int 2)) (.int 2)) (by decide +kernel))
    · exact va_eqt (hs (.eq (.elem (.static RX9 "PRICES" "[I") (.int 3)) (.int 4)) (by decide +kernel))
  obtain ⟨g, h1, h2⟩ := va_Tof (f := fun j => .int (xPri j)) (A := A) (show 4 < 2 ^ 31 by decide) (hs (.arrayOf (.static RX9 "PRICES" "[I") .int) (by decide +kernel)) (va_eqt (z := 4) (hs (.eq (.length (.static RX9 "PRICES" "[I")) (.int 4)) (by decide +kernel))) he hA
  exact ⟨g, va_Zof (hts (.laysStatic RX9 "PRICES" "[I") (by decide +kernel)) (hts (.initialized RX9) (by decide +kernel)) h1 hA, h2⟩
theorem ini_lpri {args : Array Value} {s : State} {A : Nat → Prop} (hts : ∀ w ∈ lw_tbl, w.before args s = true) (hgv : (Jvm.Cond.and given_1 narrow_1).before args s = true) (hA : ∀ a : Nat, a < s.heap.size → ¬ A a) : ∃ g : Nat, va_Z RL "PRICES" "[I" (.ref g) A s s.heap ∧ va_T .int g 4 (fun j => .int (xPri j)) A s s.heap := by
  have hs := flat_of_before _ hgv
  have he : ∀ j : Nat, j < 4 → (Term.elem (.static RL "PRICES" "[I") (.int (Int32.ofNat j))).eval args s none [] s = some (.int (xPri j)) := by
    intro j hj
    rcases (show j = 0 ∨ j = 1 ∨ j = 2 ∨ j = 3 by omega) with rfl | rfl | rfl | rfl
    · exact va_eqt (hs (.eq (.elem (.static RL "PRICES" "[I") (.int 0)) (.int 3)) (by decide +kernel))
    · exact va_eqt (hs (.eq (.elem (.static RL "PRICES" "[I") (.int 1)) (.int 5)) (by decide +kernel))
    · exact va_eqt (hs (.eq (.elem (.static RL "PRICES" "[I") (.int 2)) (.int 2)) (by decide +kernel))
    · exact va_eqt (hs (.eq (.elem (.static RL "PRICES" "[I") (.int 3)) (.int 4)) (by decide +kernel))
  obtain ⟨g, h1, h2⟩ := va_Tof (f := fun j => .int (xPri j)) (A := A) (show 4 < 2 ^ 31 by decide) (hs (.arrayOf (.static RL "PRICES" "[I") .int) (by decide +kernel)) (va_eqt (z := 4) (hs (.eq (.length (.static RL "PRICES" "[I")) (.int 4)) (by decide +kernel))) he hA
  exact ⟨g, va_Zof (hts (.laysStatic RL "PRICES" "[I") (by decide +kernel)) (hts (.initialized RL) (by decide +kernel)) h1 hA, h2⟩
theorem ini_gain {args : Array Value} {s : State} {A : Nat → Prop} (hts : ∀ w ∈ lw_tbl, w.before args s = true) (hgv : (Jvm.Cond.and given_1 narrow_1).before args s = true) (hA : ∀ a : Nat, a < s.heap.size → ¬ A a) : ∃ g : Nat, va_Z RL "GAINS" "[I" (.ref g) A s s.heap ∧ va_T .int g 6 (fun j => .int (xPts j)) A s s.heap := by
  have hs := flat_of_before _ hgv
  have he : ∀ j : Nat, j < 6 → (Term.elem (.static RL "GAINS" "[I") (.int (Int32.ofNat j))).eval args s none [] s = some (.int (xPts j)) := by
    intro j hj
    rcases (show j = 0 ∨ j = 1 ∨ j = 2 ∨ j = 3 ∨ j = 4 ∨ j = 5 by omega) with rfl | rfl | rfl | rfl | rfl | rfl
    · exact va_eqt (hs (.eq (.elem (.static RL "GAINS" "[I") (.int 0)) (.int 0)) (by decide +kernel))
    · exact va_eqt (hs (.eq (.elem (.static RL "GAINS" "[I") (.int 1)) (.int 1)) (by decide +kernel))
    · exact va_eqt (hs (.eq (.elem (.static RL "GAINS" "[I") (.int 2)) (.int 2)) (by decide +kernel))
    · exact va_eqt (hs (.eq (.elem (.static RL "GAINS" "[I") (.int 3)) (.int 4)) (by decide +kernel))
    · exact va_eqt (hs (.eq (.elem (.static RL "GAINS" "[I") (.int 4)) (.int 6)) (by decide +kernel))
    · exact va_eqt (hs (.eq (.elem (.static RL "GAINS" "[I") (.int 5)) (.int 3)) (by decide +kernel))
  obtain ⟨g, h1, h2⟩ := va_Tof (f := fun j => .int (xPts j)) (A := A) (show 6 < 2 ^ 31 by decide) (hs (.arrayOf (.static RL "GAINS" "[I") .int) (by decide +kernel)) (va_eqt (z := 6) (hs (.eq (.length (.static RL "GAINS" "[I")) (.int 6)) (by decide +kernel))) he hA
  exact ⟨g, va_Zof (hts (.laysStatic RL "GAINS" "[I") (by decide +kernel)) (hts (.initialized RL) (by decide +kernel)) h1 hA, h2⟩
theorem ini_str {args : Array Value} {s : State} (hgv : (Jvm.Cond.and given_1 narrow_1).before args s = true) {k : Nat} (hk : (Cond.exactly (.string RX11 k) "java/lang/String") ∈ flatC (Jvm.Cond.and given_1 narrow_1)) : ∃ a : Nat, (Term.string RX11 k).eval args s none [] s = some (.ref a) := by
  obtain ⟨a, c, cA, kA, q1, q2, q3, q4, q5, q6, -⟩ := Cond.exactly_spec (args := args) (first := s) (o := none) (s := s) (idx := []) (t := .string RX11 k) (cls := "java/lang/String") (flat_of_before _ hgv _ hk)
  exact ⟨a, q1⟩
theorem ini_dig {args : Array Value} {s : State} {A : Nat → Prop} (hts : ∀ w ∈ lw_tbl, w.before args s = true) (hgv : (Jvm.Cond.and given_1 narrow_1).before args s = true) (hA : ∀ a : Nat, a < s.heap.size → ¬ A a) {n : String} {f : Nat → Int32} (h1 : Cond.laysStatic "java/lang/Integer" n "[B" ∈ lw_tbl) (h2 : Cond.initialized "java/lang/Integer" ∈ lw_tbl) (h3 : Cond.arrayOf (.static "java/lang/Integer" n "[B") .byte ∈ flatC (Jvm.Cond.and given_1 narrow_1)) (h4 : Cond.eq (.length (.static "java/lang/Integer" n "[B")) (.int 100) ∈ flatC (Jvm.Cond.and given_1 narrow_1)) (h5 : ∀ j : Nat, j < 100 → Cond.eq (.elem (.static "java/lang/Integer" n "[B") (.int (Int32.ofNat j))) (.int (f j)) ∈ flatC (Jvm.Cond.and given_1 narrow_1)) : ∃ g : Nat, va_Z "java/lang/Integer" n "[B" (.ref g) A s s.heap ∧ va_T .byte g 100 (fun j => .int (f j)) A s s.heap := by
  have hs := flat_of_before _ hgv
  obtain ⟨g, h6, h7⟩ := va_Tof (f := fun j => .int (f j)) (A := A) (show 100 < 2 ^ 31 by decide) (hs _ h3) (va_eqt (z := 100) (hs _ h4)) (fun j hj => va_eqt (hs _ (h5 j hj))) hA
  exact ⟨g, va_Zof (hts _ h1) (hts _ h2) h6 hA, h7⟩
theorem ini_sk {args : Array Value} {s : State} {A : Nat → Prop} (hgv : (Jvm.Cond.and given_1 narrow_1).before args s = true) (hA : ∀ a : Nat, a < s.heap.size → ¬ A a) : ∃ adK adV : Nat → Nat, vk_S 2 [1, 2] [[32], [44, 32]] adK adV A s s.heap ∧ (Term.string RL 78).eval args s none [] s = some (.ref (adK 0)) ∧ (Term.string RL 80).eval args s none [] s = some (.ref (adK 1)) := by
  have hs := flat_of_before _ hgv
  obtain ⟨adK, adV, h1, h2⟩ := vk_Sof (N := 2) (tm := fun i => .string RL (78 + 2 * i)) (len := [1, 2]) (byt := [[32], [44, 32]]) (A := A) (s := s) (args := args) (fun i hi => by rcases (show i = 0 ∨ i = 1 by omega) with rfl | rfl <;> decide)
    (fun i hi => by rcases (show i = 0 ∨ i = 1 by omega) with rfl | rfl <;> exact hs _ (by decide +kernel))
    (fun i hi => by rcases (show i = 0 ∨ i = 1 by omega) with rfl | rfl <;> exact hs _ (by decide +kernel))
    (fun i hi => by rcases (show i = 0 ∨ i = 1 by omega) with rfl | rfl <;> exact hs _ (by decide +kernel))
    (fun i hi => by rcases (show i = 0 ∨ i = 1 by omega) with rfl | rfl <;> exact hs _ (by decide +kernel))
    (fun i hi j hj => by
      rcases (show i = 0 ∨ i = 1 by omega) with rfl | rfl
      · rcases (show j = 0 by have h : [1, 2].getD 0 0 = 1 := rfl; omega) with rfl
        exact hs _ (by decide +kernel)
      · rcases (show j = 0 ∨ j = 1 by have h : [1, 2].getD 1 0 = 2 := rfl; omega) with rfl | rfl <;> exact hs _ (by decide +kernel))
    (fun i j hi hj hij => by
      rcases (show i = 0 ∧ j = 1 ∨ i = 1 ∧ j = 0 by omega) with ⟨rfl, rfl⟩ | ⟨rfl, rfl⟩
      · exact Or.inl (hs _ (by decide +kernel))
      · exact Or.inr (hs _ (by decide +kernel))) hA
  exact ⟨adK, adV, h1, h2 0 (by decide), h2 1 (by decide)⟩
theorem ini_KA {args : Array Value} {s : State} (h : (Cond.arrayOver (.array .int)).before args s = true) : xAOA s ∧ ∃ cAA : ClassId, xKA cAA s := by
  have h9 : (Cond.arrayOver (.array .int)).before #[] s = true := by
    unfold Cond.before Cond.holds at h ⊢
    simp only [Cond.value] at h ⊢
    exact h
  refine ⟨h9, ?_⟩
  obtain ⟨comp, c, k, h1, h2, h3, h4, h5⟩ := arrayOverA_spec h
  have e1 : (FieldType.array .int).toString = "[I" := xAI_str
  have e2 : ("[" ++ (FieldType.array .int).toString) = "[[I" := xAAI_str
  rw [e1] at h1
  rw [e2] at h5
  exact ⟨c, ⟨fun n z => ⟨fun k h => (by cases h), k, h3, comp, h4⟩, h5, k, comp, h3, h4, h1⟩⟩
theorem ini_KB {args : Array Value} {s : State} (h : (Cond.arrayClass .byte).before args s = true) : ∃ cA : ClassId, ArrOfT s cA .byte ∧ va_RA s cA .byte := by
  obtain ⟨cA, kA, comp, h1, h2, h3⟩ := Cond.arrayClass_spec h
  exact ⟨cA, fun n z => ⟨fun k h => (by cases h), kA, h2, comp, h3⟩, h1⟩
set_option maxRecDepth 100000 in
set_option maxHeartbeats 4000000 in
theorem ini_GL {args : Array Value} {s : State} (hts : ∀ w ∈ lw_tbl, w.before args s = true) (hgv : (Jvm.Cond.and given_1 narrow_1).before args s = true) : ∃ g : Nat × Nat × (Nat → Nat), xGL g (fun q : Nat => s.heap.size ≤ q) s s.heap := by
  have hs := flat_of_before _ hgv
  have hA : ∀ a : Nat, a < s.heap.size → ¬ (fun q : Nat => s.heap.size ≤ q) a := fun a h => Nat.not_le.mpr h
  obtain ⟨g1, p1, p2⟩ := ini_pts (A := fun q : Nat => s.heap.size ≤ q) hts hgv hA
  obtain ⟨g2, p3, p4⟩ := ini_pri (A := fun q : Nat => s.heap.size ≤ q) hts hgv hA
  obtain ⟨g3, p5, p6⟩ := ini_gain (A := fun q : Nat => s.heap.size ≤ q) hts hgv hA
  obtain ⟨g4, p7, p8⟩ := ini_lpri (A := fun q : Nat => s.heap.size ≤ q) hts hgv hA
  obtain ⟨g5, p9, p10⟩ := ini_dig (A := fun q : Nat => s.heap.size ≤ q) (n := "DigitOnes") (f := xOnes) hts hgv hA (by decide +kernel) (by decide +kernel) (by decide +kernel) (by decide +kernel) ini_ones5
  obtain ⟨g6, p11, p12⟩ := ini_dig (A := fun q : Nat => s.heap.size ≤ q) (n := "DigitTens") (f := xTens) hts hgv hA (by decide +kernel) (by decide +kernel) (by decide +kernel) (by decide +kernel) ini_tens5
  obtain ⟨adK, adV, k5, k6, k7⟩ := ini_sk (A := fun q : Nat => s.heap.size ≤ q) hgv hA
  obtain ⟨hao, cAA, hka⟩ := ini_KA (hts (.arrayOver (.array .int)) (by decide +kernel))
  obtain ⟨cB, hkb⟩ := ini_KB (hts (.arrayClass .byte) (by decide +kernel))
  obtain ⟨a0, k0⟩ := ini_str hgv (k := 406) (by decide +kernel)
  obtain ⟨a1, k1⟩ := ini_str hgv (k := 413) (by decide +kernel)
  obtain ⟨a2, k2⟩ := ini_str hgv (k := 418) (by decide +kernel)
  obtain ⟨a3, k3⟩ := ini_str hgv (k := 423) (by decide +kernel)
  refine ⟨(g1, g2, fun i => match i with | 0 => a0 | 1 => a1 | 2 => a2 | 3 => a3 | 10 => g3 | 11 => g4 | 12 => adK 0 | 13 => adK 1 | 14 => adV 0 | 15 => adV 1 | 16 => g5 | 17 => g6 | 20 => cAA | _ => cB), ⟨?_, ⟨p1, p2⟩, ⟨p3, p4⟩, ⟨?_, ?_⟩, ?_, ?_, ?_, ?_⟩, ⟨p5, p6⟩, ⟨p7, p8⟩, ⟨hao, hka⟩, ⟨vk_R.of (hts (.stringRef RL 78 " ") (by decide +kernel)) k6, vk_R.of (hts (.stringRef RL 80 ", ") (by decide +kernel)) k7⟩, ?_, ?_, ⟨p9, p10⟩, ⟨p11, p12⟩, ?_, hkb, ?_⟩
  · exact fun w hw => va_Nw.of (xBW_on w hw) (hts w (ini_bw w (List.mem_append.mpr (Or.inl hw))))
  · exact vx_Zqof (hts (.laysStatic Bundle.tN "UNASSIGNED_STACK" Bundle.steD) (by decide +kernel)) (hts (.initialized Bundle.tN) (by decide +kernel)) (hs (.isRef (.static Bundle.tN "UNASSIGNED_STACK" Bundle.steD)) (by decide +kernel)) hA
  · exact vx_Zqof (hts (.laysStatic Bundle.tN "SUPPRESSED_SENTINEL" Bundle.listD) (by decide +kernel)) (hts (.initialized Bundle.tN) (by decide +kernel)) (hs (.isRef (.static Bundle.tN "SUPPRESSED_SENTINEL" Bundle.listD)) (by decide +kernel)) hA
  · exact vk_R.of (hts (.stringRef RX11 406 "there is no such thing") (by decide +kernel)) k0
  · exact vk_R.of (hts (.stringRef RX11 413 "a number is out of range") (by decide +kernel)) k1
  · exact vk_R.of (hts (.stringRef RX11 418 "this cannot be done now") (by decide +kernel)) k2
  · exact vk_R.of (hts (.stringRef RX11 423 "there is none") (by decide +kernel)) k3
  · refine ⟨fun i hi => ?_, fun i j hi hj he => ?_⟩
    · rcases (show i = 0 ∨ i = 1 by omega) with rfl | rfl
      · exact k5.1 0 (by decide)
      · exact k5.1 1 (by decide)
    · refine k5.2 i j hi hj ?_
      rcases (show i = 0 ∨ i = 1 by omega) with rfl | rfl <;> rcases (show j = 0 ∨ j = 1 by omega) with rfl | rfl <;> exact he
  · exact va_Zof (hts (.laysStatic "java/lang/String" "COMPACT_STRINGS" "Z") (by decide +kernel)) (hts (.initialized "java/lang/String") (by decide +kernel)) (va_eqt (z := 1) (hs (.eq (.static "java/lang/String" "COMPACT_STRINGS" "Z") (.int 1)) (by decide +kernel))) hA
  · exact va_Zqof (hts (.laysStatic "jdk/internal/util/Preconditions" "SIOOBE_FORMATTER" "Ljava/util/function/BiFunction;") (by decide +kernel)) (hts (.initialized "jdk/internal/util/Preconditions") (by decide +kernel)) (hs (.isRef (.static "jdk/internal/util/Preconditions" "SIOOBE_FORMATTER" "Ljava/util/function/BiFunction;")) (by decide +kernel)) hA
  · exact va_Nw.of (by decide) (hts (.castable "[B" "java/lang/Cloneable") (by decide +kernel))
theorem ini_K {args : Array Value} {s : State} (hts : ∀ w ∈ lw_tbl, w.before args s = true) : ∃ (D : va_G) (cA : ClassId), va_K D vwCl [(cA, .int)] s := by
  have kn : ∀ k : Nat, ∃ x : ClassId × (Nat → Nat), ∀ q : vw_C, vwCl[k]? = some q → u_Kn s q.1 q.2.1 q.2.2 x.1 x.2 := by
    intro k
    match k with
    | 0 => obtain ⟨c, i, h⟩ := u_known (C := RX0) (T := TX0) (N := 1) (n := 1) hts inX0 (hts (.instantiable RX0 1) (by decide +kernel)); exact ⟨(c, i), fun q hq => by cases hq; exact h⟩
    | 1 => obtain ⟨c, i, h⟩ := u_known (C := RX1) (T := TX1) (N := 9) (n := 9) hts inX1 (hts (.instantiable RX1 9) (by decide +kernel)); exact ⟨(c, i), fun q hq => by cases hq; exact h⟩
    | 2 => obtain ⟨c, i, h⟩ := u_known (C := RX2) (T := TX2) (N := 8) (n := 8) hts inX2 (hts (.instantiable RX2 8) (by decide +kernel)); exact ⟨(c, i), fun q hq => by cases hq; exact h⟩
    | 3 => obtain ⟨c, i, h⟩ := u_known (C := RX3) (T := TX3) (N := 7) (n := 7) hts inX3 (hts (.instantiable RX3 7) (by decide +kernel)); exact ⟨(c, i), fun q hq => by cases hq; exact h⟩
    | 4 => obtain ⟨c, i, h⟩ := u_known (C := RX4) (T := TX4) (N := 2) (n := 2) hts inX4 (hts (.instantiable RX4 2) (by decide +kernel)); exact ⟨(c, i), fun q hq => by cases hq; exact h⟩
    | 5 => obtain ⟨c, i, h⟩ := u_known (C := RX5) (T := TX5) (N := 5) (n := 5) hts inX5 (hts (.instantiable RX5 5) (by decide +kernel)); exact ⟨(c, i), fun q hq => by cases hq; exact h⟩
    | 6 => obtain ⟨c, i, h⟩ := u_known (C := RX6) (T := TX6) (N := 3) (n := 3) hts inX6 (hts (.instantiable RX6 3) (by decide +kernel)); exact ⟨(c, i), fun q hq => by cases hq; exact h⟩
    | 7 => obtain ⟨c, i, h⟩ := u_known (C := RX7) (T := TX7) (N := 8) (n := 8) hts inX7 (hts (.instantiable RX7 8) (by decide +kernel)); exact ⟨(c, i), fun q hq => by cases hq; exact h⟩
    | 8 => obtain ⟨c, i, h⟩ := u_known (C := RX8) (T := TX8) (N := 8) (n := 8) hts inX8 (hts (.instantiable RX8 8) (by decide +kernel)); exact ⟨(c, i), fun q hq => by cases hq; exact h⟩
    | 9 => obtain ⟨c, i, h⟩ := u_known (C := RX9) (T := TX9) (N := 4) (n := 4) hts inX9 (hts (.instantiable RX9 4) (by decide +kernel)); exact ⟨(c, i), fun q hq => by cases hq; exact h⟩
    | 10 => obtain ⟨c, i, h⟩ := u_known (C := RX10) (T := TX10) (N := 4) (n := 4) hts inX10 (hts (.instantiable RX10 4) (by decide +kernel)); exact ⟨(c, i), fun q hq => by cases hq; exact h⟩
    | 11 => obtain ⟨c, i, h⟩ := u_known (C := RX11) (T := TX11) (N := 14) (n := 14) hts inX11 (hts (.instantiable RX11 14) (by decide +kernel)); exact ⟨(c, i), fun q hq => by cases hq; exact h⟩
    | 12 => obtain ⟨c, i, h⟩ := u_known (C := RX12) (T := TX12) (N := 1) (n := 1) hts inX12 (hts (.instantiable RX12 1) (by decide +kernel)); exact ⟨(c, i), fun q hq => by cases hq; exact h⟩
    | 13 => obtain ⟨c, i, h⟩ := u_known (C := RL) (T := TL) (N := 10) (n := 10) hts inL (hts (.instantiable RL 10) (by decide +kernel)); exact ⟨(c, i), fun q hq => by cases hq; exact h⟩
    | 14 => obtain ⟨c, i, h⟩ := u_known (C := RJ0) (T := TJ0) (N := 4) (n := 4) hts inJ0 (hts (.instantiable RJ0 4) (by decide +kernel)); exact ⟨(c, i), fun q hq => by cases hq; exact h⟩
    | 15 => obtain ⟨c, i, h⟩ := u_known (C := RJ4) (T := TJ4) (N := 4) (n := 4) hts inJ4 (hts (.instantiable RJ4 4) (by decide +kernel)); exact ⟨(c, i), fun q hq => by cases hq; exact h⟩
    | j + 16 => exact ⟨(0, fun _ => 0), fun q hq => absurd (List.getElem?_eq_some_iff.mp hq).1 (show ¬ (j + 16 < 16) by omega)⟩
  obtain ⟨f, hf⟩ := Classical.axiomOfChoice kn
  obtain ⟨cA, i1, i2⟩ := x_int_known (hts (.arrayClass .int) (by decide +kernel))
  refine ⟨(fun k => (f k).1, fun k => (f k).2), cA, fun k q hq => hf k q hq, fun k q hq => ?_⟩
  match k, hq with
  | 0, hq => cases hq; exact ⟨i1, i2⟩
  | j + 1, hq => exact absurd hq (by simp)
