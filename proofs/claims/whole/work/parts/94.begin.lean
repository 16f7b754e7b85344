/-! ===== THE LAW'S BEGINNING: what a fresh object holds, the given things ===== -/
def iniN : Nat → Int32 := upd (upd (upd (upd (upd (upd (upd (upd (upd (upd (upd (upd (upd (upd (upd (upd (fun _ => 0) 1 2) 2 20) 3 20) 4 2) 247 100) 251 50) 255 100) 248 100) 252 50) 256 100) 249 100) 253 50) 257 100) 250 100) 254 50) 258 100
def iniX : xSt := fun q => match q with
  | 10 => upd (upd (upd (upd (upd (upd (fun _ => 0) 0 20) 1 20) 2 20) 3 20) 4 20) 5 20
  | 20 => fun j => match j with
    | 1 => 2
    | 2 => 2
    | 3 => 20
    | 4 => 20
    | _ => 0
  | 30 => upd (upd (upd (upd (fun _ => 0) 0 100) 1 100) 2 100) 3 100
  | 31 => upd (upd (upd (upd (fun _ => 0) 0 50) 1 50) 2 50) 3 50
  | 32 => upd (upd (upd (upd (fun _ => 0) 0 100) 1 100) 2 100) 3 100
  | _ => fun _ => 0
def iniM : xSt := fun q => match q with
  | 1 => iniN
  | _ => fun _ => 0
def iniA (h0 : Nat) (u : Nat → Nat) : Nat → Nat := fun k => match k with
  | 0 => h0
  | 1 => u 50
  | j + 2 => u j
def iniB (h0 : Nat) (u : Nat → Nat) : Nat → Nat := fun k => match k with
  | 0 => h0
  | j + 1 => u j
theorem perm_last {α : Type} (k : Nat) : ∀ (L : List α), (L.take 1 ++ (L.drop (k + 1) ++ (L.drop 1).take k)).Perm L
  | [] => by simp
  | a :: t => by
    have h : (t.drop k ++ t.take k).Perm t := by
      have h9 := List.perm_append_comm (l₁ := t.drop k) (l₂ := t.take k)
      rw [List.take_append_drop] at h9
      exact h9
    exact List.Perm.cons a h
set_option maxRecDepth 100000 in
set_option maxHeartbeats 4000000 in
theorem iniX_W (cA : ClassId) (h0 : Nat) (u : Nat → Nat) : xW (iniA h0 u) cA shX iniX [] = (wX11_init cA h0 u).take 1 ++ ((wX11_init cA h0 u).drop 51 ++ ((wX11_init cA h0 u).drop 1).take 50) := by
  unfold xW shX
  simp only [List.mapIdx_cons, List.mapIdx_nil, Nat.reduceAdd, Nat.zero_add]
  rfl
set_option maxRecDepth 100000 in
set_option maxHeartbeats 4000000 in
theorem iniM_W (cA : ClassId) (h0 : Nat) (u : Nat → Nat) : xW (iniB h0 u) cA shM iniM [] = wX12_init cA h0 u := by
  unfold xW shM
  simp only [List.mapIdx_cons, List.mapIdx_nil, Nat.reduceAdd, Nat.zero_add]
  rfl
theorem iniX_perm (cA : ClassId) (h0 : Nat) (u : Nat → Nat) : (wX11_init cA h0 u).Perm (xW (iniA h0 u) cA shX iniX []) := by
  rw [iniX_W]
  exact (perm_last 50 _).symm
theorem ini_c : cR iniN = 0 ∧ cD iniN = 0 ∧ cS iniN = 0 ∧ ∀ r, r < 6 → cN iniN r = 0 := by
  unfold cR cD cS cN
  decide +kernel
theorem ini_pg : pgS iniX iniN := by
  unfold pgS cR
  decide +kernel
theorem ini_RX : RX iniX ([], iniN, (fun _ => 0), 0) := by
  obtain ⟨hR, hD, hS, hN⟩ := ini_c
  refine ⟨ini_pg, ⟨?_, ?_, ?_, ?_, ?_, ?_, ?_, ?_, ?_, ?_, ?_, ?_, ?_, ?_⟩, ⟨Nat.zero_le _, rfl, 0, by decide, rfl, fun i x h => by simp at h⟩, ⟨rfl, rfl⟩, ⟨Nat.zero_le _, rfl, fun k hk => absurd hk (Nat.not_lt_zero k)⟩⟩
  · intro k hk; have hk : k < cR iniN := hk; rw [hR] at hk; exact absurd hk (Nat.not_lt_zero k)
  · intro k hk; have hk : k < cR iniN := hk; rw [hR] at hk; exact absurd hk (Nat.not_lt_zero k)
  · intro k hk; have hk : k < cR iniN := hk; rw [hR] at hk; exact absurd hk (Nat.not_lt_zero k)
  · intro k hk; have hk : k < cR iniN := hk; rw [hR] at hk; exact absurd hk (Nat.not_lt_zero k)
  · intro k hk; have hk : k < cR iniN := hk; rw [hR] at hk; exact absurd hk (Nat.not_lt_zero k)
  · intro k hk; have hk : k < cD iniN := hk; rw [hD] at hk; exact absurd hk (Nat.not_lt_zero k)
  · intro k hk; have hk : k < cD iniN := hk; rw [hD] at hk; exact absurd hk (Nat.not_lt_zero k)
  · intro k hk; have hk : k < cS iniN := hk; rw [hS] at hk; exact absurd hk (Nat.not_lt_zero k)
  · intro k hk; have hk : k < cS iniN := hk; rw [hS] at hk; exact absurd hk (Nat.not_lt_zero k)
  · intro k hk; have hk : k < cS iniN := hk; rw [hS] at hk; exact absurd hk (Nat.not_lt_zero k)
  · intro k hk; have hk : k < cS iniN := hk; rw [hS] at hk; exact absurd hk (Nat.not_lt_zero k)
  · intro k hk; have hk : k < cS iniN := hk; rw [hS] at hk; exact absurd hk (Nat.not_lt_zero k)
  · intro k hk; have hk : k < cD iniN := hk; rw [hD] at hk; exact absurd hk (Nat.not_lt_zero k)
  · intro r hr k hk; have hk : k < cN iniN r := hk; rw [hN r hr] at hk; exact absurd hk (Nat.not_lt_zero k)
theorem ini_RM : RM iniM ([], iniN, (fun _ => 0), 0) := ⟨fun _ _ => rfl, ⟨Nat.zero_le _, rfl, 0, by decide, rfl, fun i x h => by simp at h⟩, Nat.zero_le _, rfl, fun k hk => absurd hk (Nat.not_lt_zero k)⟩
theorem ini_caps : caps iniN := by
  obtain ⟨hR, hD, hS, hN⟩ := ini_c
  refine ⟨by rw [hR]; decide, by rw [hD]; decide, by rw [hS]; decide, fun r hr => by rw [hN r hr]; decide, fun k hk => ?_, by rw [hR]; decide +kernel, by rw [hD]; decide +kernel, by rw [hS]; decide +kernel, fun r hr => ?_⟩
  · rw [hD] at hk; exact absurd hk (Nat.not_lt_zero k)
  · rw [hN r hr]
    have h : ∀ r, r < 6 → iniN (259 + r) = nI 0 := by decide +kernel
    exact h r hr
theorem ini_Inv : Inv 0 iniN := by
  obtain ⟨hR, hD, hS, hN⟩ := ini_c
  refine ⟨ini_caps, ?_, ⟨fun k hk => ?_, ?_⟩, fun k hk => ?_, ?_, ?_, fun r hr k hk => ?_, fun k hk => ?_, ?_, ?_, ?_, ?_, ?_⟩
  · unfold iOven bt; decide +kernel
  · rw [hR] at hk; exact absurd hk (Nat.not_lt_zero k)
  · unfold bt; decide +kernel
  · rw [hD] at hk; exact absurd hk (Nat.not_lt_zero k)
  · intro k hk
    have h : ∀ k, k < 24 → iniN (223 + k) = 0 := by decide +kernel
    rw [h k hk]
    exact ⟨by decide, fun _ => rfl⟩
  · unfold iFlour bt; decide +kernel
  · rw [hN r hr] at hk; exact absurd hk (Nat.not_lt_zero k)
  · rw [hS] at hk; exact absurd hk (Nat.not_lt_zero k)
  · unfold led; rw [hD, hR]; decide +kernel
  · decide +kernel
  · decide +kernel
  · decide +kernel
  · decide +kernel
theorem ini_GH : GH 0 ([], iniN, (fun _ => 0), 0) := ⟨ini_Inv, fun x hx => absurd hx List.not_mem_nil, trivial⟩
theorem xBJ_warm {s U : State} (hW : s.WarmedH U.vm) : ∀ w ∈ xBJ, va_Nw w s → va_Nw w U := by
  intro w hw h
  simp only [xBJ, List.mem_cons, List.not_mem_nil, or_false] at hw
  rcases hw with rfl | rfl | rfl | rfl | rfl | rfl | rfl
  all_goals exact va_Nw.warmM hW h
theorem ini_bw : ∀ w ∈ xBW ++ xBJ, w ∈ lw_tbl := by decide +kernel
theorem ini_N {args : Array Value} {s : State} (hgv : (Jvm.Cond.and given_1 narrow_1).before args s = true) : xN s := by
  have hs := flat_of_before _ hgv
  intro i hi j hj hij
  rcases (show i = 0 ∨ i = 1 ∨ i = 2 ∨ i = 3 by omega) with rfl | rfl | rfl | rfl <;> rcases (show j = 0 ∨ j = 1 ∨ j = 2 ∨ j = 3 by omega) with rfl | rfl | rfl | rfl
  all_goals first | exact absurd rfl hij | exact va_Nc.of (hs _ (by decide +kernel))
theorem ini_pts {args : Array Value} {s : State} {A : Nat → Prop} (hts : ∀ w ∈ lw_tbl, w.before args s = true) (hgv : (Jvm.Cond.and given_1 narrow_1).before args s = true) (hA : ∀ a : Nat, a < s.heap.size → ¬ A a) : ∃ g : Nat, va_Z RX5 "POINTS_OF_WARMTH" "[I" (.ref g) A s s.heap ∧ va_T .int g 6 (fun j => .int (xPts j)) A s s.heap := by
  have hs := flat_of_before _ hgv
  have he : ∀ j : Nat, j < 6 → (Term.elem (.static RX5 "POINTS_OF_WARMTH" "[I") (.int (Int32.ofNat j))).eval args s none [] s = some (.int (xPts j)) := by
    intro j hj
    rcases (show j = 0 ∨ j = 1 ∨ j = 2 ∨ j = 3 ∨ j = 4 ∨ j = 5 by omega) with rfl | rfl | rfl | rfl | rfl | rfl
    · exact va_eqt (hs (.eq (.elem (.static RX5 "POINTS_OF_WARMTH" "[I") (.int 0)) (.int 0)) (by decide +kernel))
    · exact va_eqt (hs (.eq (.elem (.static RX5 "POINTS_OF_WARMTH" "[I") (.int 1)) (.int 1)) (by decide +kernel))
    · exact va_eqt (hs (.eq (.elem (.static RX5 "POINTS_OF_WARMTH" "[I") (.int 2)) (.int 2)) (by decide +kernel))
    · exact va_eqt (hs (.eq (.elem (.static RX5 "POINTS_OF_WARMTH" "[I") (.int 3)) (.int 4)) (by decide +kernel))
    · exact va_eqt (hs (.eq (.elem (.static RX5 "POINTS_OF_WARMTH" "[I") (.int 4)) (.int 6)) (by decide +kernel))
    · exact va_eqt (hs (.eq (.elem (.static RX5 "POINTS_OF_WARMTH" "[I") (.int 5)) (.int 3)) (by decide +kernel))
  obtain ⟨g, h1, h2⟩ := va_Tof (f := fun j => .int (xPts j)) (A := A) (show 6 < 2 ^ 31 by decide) (hs (.arrayOf (.static RX5 "POINTS_OF_WARMTH" "[I") .int) (by decide +kernel)) (va_eqt (z := 6) (hs (.eq (.length (.static RX5 "POINTS_OF_WARMTH" "[I")) (.int 6)) (by decide +kernel))) he hA
  exact ⟨g, va_Zof (hts (.laysStatic RX5 "POINTS_OF_WARMTH" "[I") (by decide +kernel)) (hts (.initialized RX5) (by decide +kernel)) h1 hA, h2⟩
theorem ini_pri {args : Array Value} {s : State} {A : Nat → Prop} (hts : ∀ w ∈ lw_tbl, w.before args s = true) (hgv : (Jvm.Cond.and given_1 narrow_1).before args s = true) (hA : ∀ a : Nat, a < s.heap.size → ¬ A a) : ∃ g : Nat, va_Z RX9 "PRICES" "[I" (.ref g) A s s.heap ∧ va_T .int g 4 (fun j => .int (xPri j)) A s s.heap := by
  have hs := flat_of_before _ hgv
  have he : ∀ j : Nat, j < 4 → (Term.elem (.static RX9 "PRICES" "[I") (.int (Int32.ofNat j))).eval args s none [] s = some (.int (xPri j)) := by
    intro j hj
    rcases (show j = 0 ∨ j = 1 ∨ j = 2 ∨ j = 3 by omega) with rfl | rfl | rfl | rfl
    · exact va_eqt (hs (.eq (.elem (.static RX9 "PRICES" "[I") (.int 0)) (.int 3)) (by decide +kernel))
    · exact va_eqt (hs (.eq (.elem (.static RX9 "PRICES" "[I") (.int 1)) (.int 5)) (by decide +kernel))
    · exact va_eqt (hs (.eq (.elem (.static RX9 "PRICES" "[I") (.int 2)) (.int 2)) (by decide +kernel))
    · exact va_eqt (hs (.eq (.elem (.static RX9 "PRICES" "[I") (.int 3)) (.int 4)) (by decide +kernel))
  obtain ⟨g, h1, h2⟩ := va_Tof (f := fun j => .int (xPri j)) (A := A) (show 4 < 2 ^ 31 by decide) (hs (.arrayOf (.static RX9 "PRICES" "[I") .int) (by decide +kernel)) (va_eqt (z := 4) (hs (.eq (.length (.static RX9 "PRICES" "[I")) (.int 4)) (by decide +kernel))) he hA
  exact ⟨g, va_Zof (hts (.laysStatic RX9 "PRICES" "[I") (by decide +kernel)) (hts (.initialized RX9) (by decide +kernel)) h1 hA, h2⟩
theorem ini_str {args : Array Value} {s : State} (hgv : (Jvm.Cond.and given_1 narrow_1).before args s = true) {k : Nat} (hk : (Cond.exactly (.string RX11 k) "java/lang/String") ∈ flatC (Jvm.Cond.and given_1 narrow_1)) : ∃ a : Nat, (Term.string RX11 k).eval args s none [] s = some (.ref a) := by
  obtain ⟨a, c, cA, kA, q1, q2, q3, q4, q5, q6, -⟩ := Cond.exactly_spec (args := args) (first := s) (o := none) (s := s) (idx := []) (t := .string RX11 k) (cls := "java/lang/String") (flat_of_before _ hgv _ hk)
  exact ⟨a, q1⟩
theorem ini_G {args : Array Value} {s : State} (hts : ∀ w ∈ lw_tbl, w.before args s = true) (hgv : (Jvm.Cond.and given_1 narrow_1).before args s = true) : ∃ g : Nat × Nat × (Nat → Nat), xG g (fun q : Nat => s.heap.size ≤ q) s s.heap := by
  have hs := flat_of_before _ hgv
  have hA : ∀ a : Nat, a < s.heap.size → ¬ (fun q : Nat => s.heap.size ≤ q) a := fun a h => Nat.not_le.mpr h
  obtain ⟨g1, p1, p2⟩ := ini_pts (A := fun q : Nat => s.heap.size ≤ q) hts hgv hA
  obtain ⟨g2, p3, p4⟩ := ini_pri (A := fun q : Nat => s.heap.size ≤ q) hts hgv hA
  obtain ⟨a0, k0⟩ := ini_str hgv (k := 406) (by decide +kernel)
  obtain ⟨a1, k1⟩ := ini_str hgv (k := 413) (by decide +kernel)
  obtain ⟨a2, k2⟩ := ini_str hgv (k := 418) (by decide +kernel)
  obtain ⟨a3, k3⟩ := ini_str hgv (k := 423) (by decide +kernel)
  refine ⟨(g1, g2, fun i => match i with | 0 => a0 | 1 => a1 | 2 => a2 | _ => a3), ?_, ⟨p1, p2⟩, ⟨p3, p4⟩, ⟨?_, ?_⟩, ?_, ?_, ?_, ?_⟩
  · exact fun w hw => va_Nw.of (xBW_on w hw) (hts w (ini_bw w (List.mem_append.mpr (Or.inl hw))))
  · exact vx_Zqof (hts (.laysStatic Bundle.tN "UNASSIGNED_STACK" Bundle.steD) (by decide +kernel)) (hts (.initialized Bundle.tN) (by decide +kernel)) (hs (.isRef (.static Bundle.tN "UNASSIGNED_STACK" Bundle.steD)) (by decide +kernel)) hA
  · exact vx_Zqof (hts (.laysStatic Bundle.tN "SUPPRESSED_SENTINEL" Bundle.listD) (by decide +kernel)) (hts (.initialized Bundle.tN) (by decide +kernel)) (hs (.isRef (.static Bundle.tN "SUPPRESSED_SENTINEL" Bundle.listD)) (by decide +kernel)) hA
  · exact vk_R.of (hts (.stringRef RX11 406 "there is no such thing") (by decide +kernel)) k0
  · exact vk_R.of (hts (.stringRef RX11 413 "a number is out of range") (by decide +kernel)) k1
  · exact vk_R.of (hts (.stringRef RX11 418 "this cannot be done now") (by decide +kernel)) k2
  · exact vk_R.of (hts (.stringRef RX11 423 "there is none") (by decide +kernel)) k3
theorem ini_K {args : Array Value} {s : State} (hts : ∀ w ∈ lw_tbl, w.before args s = true) : ∃ (D : va_G) (cA : ClassId), va_K D vwCl [(cA, .int)] s := by
  have kn : ∀ k : Nat, ∃ x : ClassId × (Nat → Nat), ∀ q : vw_C, vwCl[k]? = some q → u_Kn s q.1 q.2.1 q.2.2 x.1 x.2 := by
    intro k
    match k with
    | 0 => obtain ⟨c, i, h⟩ := u_known (C := RX0) (T := TX0) (N := 1) (n := 1) hts lwx_X0 (hts (.instantiable RX0 1) (by decide +kernel)); exact ⟨(c, i), fun q hq => by cases hq; exact h⟩
    | 1 => obtain ⟨c, i, h⟩ := u_known (C := RX1) (T := TX1) (N := 9) (n := 9) hts lwx_X1 (hts (.instantiable RX1 9) (by decide +kernel)); exact ⟨(c, i), fun q hq => by cases hq; exact h⟩
    | 2 => obtain ⟨c, i, h⟩ := u_known (C := RX2) (T := TX2) (N := 8) (n := 8) hts lwx_X2 (hts (.instantiable RX2 8) (by decide +kernel)); exact ⟨(c, i), fun q hq => by cases hq; exact h⟩
    | 3 => obtain ⟨c, i, h⟩ := u_known (C := RX3) (T := TX3) (N := 7) (n := 7) hts lwx_X3 (hts (.instantiable RX3 7) (by decide +kernel)); exact ⟨(c, i), fun q hq => by cases hq; exact h⟩
    | 4 => obtain ⟨c, i, h⟩ := u_known (C := RX4) (T := TX4) (N := 2) (n := 2) hts lwx_X4 (hts (.instantiable RX4 2) (by decide +kernel)); exact ⟨(c, i), fun q hq => by cases hq; exact h⟩
    | 5 => obtain ⟨c, i, h⟩ := u_known (C := RX5) (T := TX5) (N := 5) (n := 5) hts lwx_X5 (hts (.instantiable RX5 5) (by decide +kernel)); exact ⟨(c, i), fun q hq => by cases hq; exact h⟩
    | 6 => obtain ⟨c, i, h⟩ := u_known (C := RX6) (T := TX6) (N := 3) (n := 3) hts lwx_X6 (hts (.instantiable RX6 3) (by decide +kernel)); exact ⟨(c, i), fun q hq => by cases hq; exact h⟩
    | 7 => obtain ⟨c, i, h⟩ := u_known (C := RX7) (T := TX7) (N := 8) (n := 8) hts lwx_X7 (hts (.instantiable RX7 8) (by decide +kernel)); exact ⟨(c, i), fun q hq => by cases hq; exact h⟩
    | 8 => obtain ⟨c, i, h⟩ := u_known (C := RX8) (T := TX8) (N := 8) (n := 8) hts lwx_X8 (hts (.instantiable RX8 8) (by decide +kernel)); exact ⟨(c, i), fun q hq => by cases hq; exact h⟩
    | 9 => obtain ⟨c, i, h⟩ := u_known (C := RX9) (T := TX9) (N := 4) (n := 4) hts lwx_X9 (hts (.instantiable RX9 4) (by decide +kernel)); exact ⟨(c, i), fun q hq => by cases hq; exact h⟩
    | 10 => obtain ⟨c, i, h⟩ := u_known (C := RX10) (T := TX10) (N := 4) (n := 4) hts lwx_X10 (hts (.instantiable RX10 4) (by decide +kernel)); exact ⟨(c, i), fun q hq => by cases hq; exact h⟩
    | 11 => obtain ⟨c, i, h⟩ := u_known (C := RX11) (T := TX11) (N := 14) (n := 14) hts lwx_X11 (hts (.instantiable RX11 14) (by decide +kernel)); exact ⟨(c, i), fun q hq => by cases hq; exact h⟩
    | 12 => obtain ⟨c, i, h⟩ := u_known (C := RX12) (T := TX12) (N := 20) (n := 20) hts lwx_X12 (hts (.instantiable RX12 20) (by decide +kernel)); exact ⟨(c, i), fun q hq => by cases hq; exact h⟩
    | j + 13 => exact ⟨(0, fun _ => 0), fun q hq => absurd (List.getElem?_eq_some_iff.mp hq).1 (show ¬ (j + 13 < 13) by omega)⟩
  obtain ⟨f, hf⟩ := Classical.axiomOfChoice kn
  obtain ⟨cA, i1, i2⟩ := x_int_known (hts (.arrayClass .int) (by decide +kernel))
  refine ⟨(fun k => (f k).1, fun k => (f k).2), cA, fun k q hq => hf k q hq, fun k q hq => ?_⟩
  match k, hq with
  | 0, hq => cases hq; exact ⟨i1, i2⟩
  | j + 1, hq => exact absurd hq (by simp)
