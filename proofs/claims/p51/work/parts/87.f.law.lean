theorem dJ9_abs_294c1_0 : decode cJ9_abs_294c1 0 = .ok (.dload_n 0, 1) := by decide +kernel
theorem dJ9_abs_294c1_1 : decode cJ9_abs_294c1 1 = .ok (.invokestatic 79, 3) := by decide +kernel
theorem dJ9_abs_294c1_4 : decode cJ9_abs_294c1 4 = .ok (.ldc2_w 135, 3) := by decide +kernel
theorem dJ9_abs_294c1_7 : decode cJ9_abs_294c1 7 = .ok (.land, 1) := by decide +kernel
theorem dJ9_abs_294c1_8 : decode cJ9_abs_294c1 8 = .ok (.invokestatic 166, 3) := by decide +kernel
theorem dJ9_abs_294c1_11 : decode cJ9_abs_294c1 11 = .ok (.dreturn, 1) := by decide +kernel
/-! ===== DOUBLES, AND A CALL THAT MAY BE CAUGHT ===== -/
theorem nn_vf {v : UInt64} (h : isNaN64 v = false) : vf_n64 v := by
  unfold isNaN64 at h
  exact UInt64.not_lt.mp (of_decide_eq_false h)
def xtr {β : Type} (f : Option (xO × xSt)) (ρ : xSt) (k : Nat) (K : Int32 → xSt → Option β) (J : xSt → Option β) : Option β := match f with | some (.inl r, σ) => K r (xmix σ ρ) | some (.inr j, σ) => if j = k then J (xmix σ ρ) else none | none => none
theorem xtr_f {β : Type} {f : Option (xO × xSt)} {ρ : xSt} {k : Nat} {K : Int32 → xSt → Option β} {J : xSt → Option β} {o : β} (h : xtr f ρ k K J = some o) : (∃ r σ, f = some (.inl r, σ) ∧ ∀ σ1, σ1 = xmix σ ρ → K r σ1 = some o) ∨ (∃ σ, f = some (.inr k, σ) ∧ ∀ σ1, σ1 = xmix σ ρ → J σ1 = some o) := by
  unfold xtr at h
  split at h
  · exact Or.inl ⟨_, _, rfl, fun σ1 e => by rw [e]; exact h⟩
  · split at h
    · rename_i e; subst e; exact Or.inr ⟨_, rfl, fun σ1 e => by rw [e]; exact h⟩
    · cases h
  · cases h
abbrev xQd (E : xE) (A : Nat → Prop) (r0 : UInt64) (σ1 : xSt) : Array Value → State → Outcome → State → Prop := va_Qd (S := xSt) (fun r u => r = r0 ∧ u = σ1) (fun u t => xat E A u t) A
def xLd (l : Launch) (y : MethodName) (ws : List Cond) (rm : Room) (E : xE) (av : List Value) (σ : xSt) (r0 : UInt64) (σ1 : xSt) (mc ms : Nat) : Prop := ∀ sz : Nat, Met l y ws rm (xPreL E av σ sz) (xQd E (va_A (E.W σ) sz) r0 σ1) mc ms (va_A (E.W σ) sz)
section XLD
variable {p : Program} {l : Launch} {e : Env} {R : Room} {s : State} {m : MethodId} {args : Array Value} {below : List Frame} {meth : Method} {c : Code} {H : Heap} {locs : List Loc} {cells slots : Nat} {Q : State → Prop}
variable {cc : ByteArray} {pc : Nat} {ls : Array Slot} {rest : List Value} {E : xE} {A : Nat → Prop} {H0 : Heap} {σ : xSt}
theorem x_callLd {av : Array Value} {r0 : UInt64} {σ1 : xSt} {st0 : List Value} {mc ms : Nat} (hr : va_Run p l e R s m args below meth c H locs cells slots mc ms (F0 m pc ls st0) rest (xQd E (va_A (E.W σ) H.size) r0 σ1 av) (va_A (E.W σ) H.size)) (hw : xw E A H0 s σ H locs) (hA : ∀ q, H0.size ≤ q → A q)
    (kk : ∀ (H1 : Heap) (locs1 : List Loc), xw E A H0 s σ1 H1 locs1 → W p l e R s m args below meth c H1 locs1 (cells + mc) (slots + ms) Q (F0 m (pc + 3) ls (.double r0 :: rest))) : W p l e R s m args below meth c H locs cells slots Q (F0 m pc ls st0) := by
  refine va_calld hr hw.2.2.2 (fun q _ h => hw.free hA q h) (hw.free hA) (fun r u t H1 locs1 ht hvm hpost hB hz1 hk1 hS1 => ?_)
  obtain ⟨rfl, rfl⟩ := hpost
  obtain ⟨hP1, hK1, hD1⟩ := hB
  rw [ht] at hP1
  exact kk H1 locs1 ⟨hw.1, hP1, ⟨hD1.1, fun k z hk => hw.free hA _ (hD1.2 k z hk)⟩, hS1⟩
end XLD
def xdabs (v : UInt64) : UInt64 := (v.toInt64 &&& 9223372036854775807).toUInt64
theorem xdabs_eq (v : UInt64) : xdabs v = v &&& 0x7fffffffffffffff := by
  unfold xdabs
  rw [Int64.toUInt64_and, UInt64.toUInt64_toInt64]
  rfl
theorem xdabs_snl {v : UInt64} (h : vf_n64 v) : vn_snl2d (v.toInt64 &&& 9223372036854775807) = false := by
  have e : (v.toInt64 &&& 9223372036854775807).toUInt64 = v &&& 0x7fffffffffffffff := xdabs_eq v
  unfold vn_snl2d
  rw [e, UInt64.and_assoc, UInt64.and_self]
  have h2 : ¬ (v &&& 0x7fffffffffffffff > 0x7ff0000000000000) := UInt64.not_lt.mpr h
  rw [decide_eq_false h2]
  rfl
abbrev rmJ9_abs_294c1 : Room := { frames := 1, cells := 0, slots := 0, locals := 40 }
set_option maxRecDepth 100000 in
set_option maxHeartbeats 4000000 in
theorem mJ9_absd {l : Launch} {E : xE} (v : UInt64) (hv : vf_n64 v) (σ : xSt) : xLd l yJ9_abs_294c1 wsJ9_abs_294c1 rmJ9_abs_294c1 E [.double v] σ (xdabs v) σ 0 0 := by
  intro sz
  refine xJ_of (QF := fun B => xQd E B (xdabs v) σ) sz (cc := cJ9_abs_294c1) (maxL := 2) (ret := (some .double)) (by decide) rfl (Nat.le_of_ble_eq_true rfl) ?_
  intro p e s m args below meth c A ls ⟨hx, hb, hr, hml, hown, hts, hlk⟩ hnm hA hGL hw hl
  have hown : s.vm.findClass RJ9 = some m.cls := hown
  have hl : lv_has ls 2 [(0, .double v)] := hl
  refine lv_dload_n hx hb dJ9_abs_294c1_0 rfl (lv_at hl 0 rfl) ?_
  refine vn_d2l hx hb (hml.trans hl.1.symm) hown (hts (.methodLink RJ9 79 ⟨"java/lang/Double", "doubleToRawLongBits", "(D)J"⟩) (by decide +kernel)) (hts (.native ⟨"java/lang/Double", "doubleToRawLongBits", "(D)J"⟩) (by decide +kernel)) (hts (.static ⟨"java/lang/Double", "doubleToRawLongBits", "(D)J"⟩) (by decide +kernel)) (hts (.initialized "java/lang/Double") (by decide +kernel)) (Nat.le_of_ble_eq_true rfl) (Nat.le_of_ble_eq_true rfl) dJ9_abs_294c1_1 ?_
  refine lv_ldc2 hx hb hown (hts (.constantLong RJ9 135 (9223372036854775807)) (by decide +kernel)) dJ9_abs_294c1_4 ?_
  refine lv_land hx hb dJ9_abs_294c1_7 ?_
  refine vn_l2d hx hb (hml.trans hl.1.symm) hown (hts (.methodLink RJ9 166 ⟨"java/lang/Double", "longBitsToDouble", "(J)D"⟩) (by decide +kernel)) (hts (.native ⟨"java/lang/Double", "longBitsToDouble", "(J)D"⟩) (by decide +kernel)) (hts (.static ⟨"java/lang/Double", "longBitsToDouble", "(J)D"⟩) (by decide +kernel)) (hts (.initialized "java/lang/Double") (by decide +kernel)) (xdabs_snl hv) (Nat.le_of_ble_eq_true rfl) (Nat.le_of_ble_eq_true rfl) dJ9_abs_294c1_8 ?_
  exact W.dret hx hb hr (fun t ht hW => ⟨⟨xdabs v, σ, rfl, ⟨rfl, rfl⟩, by rw [ht]; exact hw.2.1, va_K.moved hW.alike hw.1, hw.2.2.1⟩, hw.2.2.2.F ht⟩) hw.2.2.2.2.2 dJ9_abs_294c1_11 hlk
def fL_isNoneX_c26 (f1 f2 : Nat → Int32) (k3 : (Int32 → Int32 → Int32 → xSt → Option (Int32 × xSt))) (k13 : (Int32 → Int32 → Int32 → Int32 → xSt → Option (Int32 × xSt))) : Nat → Int32 → Int32 → Int32 → Int32 → Int32 → xSt → Option (Int32 × xSt)
  | 0 => fun _ _ _ _ _ _ => none
  | n + 1 => fun a2 a3 a4 a5 a6 σ => (if 10 < ((a4 + a5) + a6) then (xl (a5 + 1) fun v2 => k13 a2 a3 a4 v2 σ) else (xl (((10 - a4) - a5) - a6) fun v3 => (xrs f1 4 0 fun v4 => (xrs f1 4 1 fun v5 => (xrs f1 4 2 fun v6 => (xrs f1 4 3 fun v7 => (xl ((((a4 * v4) + (a5 * v5)) + (a6 * v6)) + (v3 * v7)) fun v8 => (xrs f2 4 0 fun v9 => (if v9 < (10 * a4) then (xl (a6 + 1) fun v10 => fL_isNoneX_c26 f1 f2 k3 k13 n a2 a3 a4 a5 v10 σ) else (xrs f2 4 1 fun v11 => (if v11 < (10 * a5) then (xl (a6 + 1) fun v12 => fL_isNoneX_c26 f1 f2 k3 k13 n a2 a3 a4 a5 v12 σ) else (xrs f2 4 2 fun v13 => (if v13 < (10 * a6) then (xl (a6 + 1) fun v14 => fL_isNoneX_c26 f1 f2 k3 k13 n a2 a3 a4 a5 v14 σ) else (xrs f2 4 3 fun v15 => (if v15 < (10 * v3) then (xl (a6 + 1) fun v16 => fL_isNoneX_c26 f1 f2 k3 k13 n a2 a3 a4 a5 v16 σ) else (if v8 < (10 * a2) then (xl (a6 + 1) fun v17 => fL_isNoneX_c26 f1 f2 k3 k13 n a2 a3 a4 a5 v17 σ) else (if (10 * a3) < v8 then (xl (a6 + 1) fun v18 => fL_isNoneX_c26 f1 f2 k3 k13 n a2 a3 a4 a5 v18 σ) else some (0, σ))))))))))))))))))
theorem fL_isNoneX_c26_s (f1 f2 : Nat → Int32) (k3 : (Int32 → Int32 → Int32 → xSt → Option (Int32 × xSt))) (k13 : (Int32 → Int32 → Int32 → Int32 → xSt → Option (Int32 × xSt))) (n : Nat) (a2 : Int32) (a3 : Int32) (a4 : Int32) (a5 : Int32) (a6 : Int32) (σ : xSt) : fL_isNoneX_c26 f1 f2 k3 k13 (n + 1) a2 a3 a4 a5 a6 σ = ((if 10 < ((a4 + a5) + a6) then (xl (a5 + 1) fun v2 => k13 a2 a3 a4 v2 σ) else (xl (((10 - a4) - a5) - a6) fun v3 => (xrs f1 4 0 fun v4 => (xrs f1 4 1 fun v5 => (xrs f1 4 2 fun v6 => (xrs f1 4 3 fun v7 => (xl ((((a4 * v4) + (a5 * v5)) + (a6 * v6)) + (v3 * v7)) fun v8 => (xrs f2 4 0 fun v9 => (if v9 < (10 * a4) then (xl (a6 + 1) fun v10 => fL_isNoneX_c26 f1 f2 k3 k13 n a2 a3 a4 a5 v10 σ) else (xrs f2 4 1 fun v11 => (if v11 < (10 * a5) then (xl (a6 + 1) fun v12 => fL_isNoneX_c26 f1 f2 k3 k13 n a2 a3 a4 a5 v12 σ) else (xrs f2 4 2 fun v13 => (if v13 < (10 * a6) then (xl (a6 + 1) fun v14 => fL_isNoneX_c26 f1 f2 k3 k13 n a2 a3 a4 a5 v14 σ) else (xrs f2 4 3 fun v15 => (if v15 < (10 * v3) then (xl (a6 + 1) fun v16 => fL_isNoneX_c26 f1 f2 k3 k13 n a2 a3 a4 a5 v16 σ) else (if v8 < (10 * a2) then (xl (a6 + 1) fun v17 => fL_isNoneX_c26 f1 f2 k3 k13 n a2 a3 a4 a5 v17 σ) else (if (10 * a3) < v8 then (xl (a6 + 1) fun v18 => fL_isNoneX_c26 f1 f2 k3 k13 n a2 a3 a4 a5 v18 σ) else some (0, σ)))))))))))))))))) : Option (Int32 × xSt)) := rfl
def fL_isNoneX_c13 (f1 f2 : Nat → Int32) (k3 : (Int32 → Int32 → Int32 → xSt → Option (Int32 × xSt))) : Nat → Int32 → Int32 → Int32 → Int32 → xSt → Option (Int32 × xSt)
  | 0 => fun _ _ _ _ _ => none
  | n + 1 => fun a2 a3 a4 a5 σ => (if 10 < (a4 + a5) then (xl (a4 + 1) fun v1 => k3 a2 a3 v1 σ) else fL_isNoneX_c26 f1 f2 k3 (fL_isNoneX_c13 f1 f2 k3 n) xFU a2 a3 a4 a5 0 σ)
theorem fL_isNoneX_c13_s (f1 f2 : Nat → Int32) (k3 : (Int32 → Int32 → Int32 → xSt → Option (Int32 × xSt))) (n : Nat) (a2 : Int32) (a3 : Int32) (a4 : Int32) (a5 : Int32) (σ : xSt) : fL_isNoneX_c13 f1 f2 k3 (n + 1) a2 a3 a4 a5 σ = ((if 10 < (a4 + a5) then (xl (a4 + 1) fun v1 => k3 a2 a3 v1 σ) else fL_isNoneX_c26 f1 f2 k3 (fL_isNoneX_c13 f1 f2 k3 n) xFU a2 a3 a4 a5 0 σ) : Option (Int32 × xSt)) := rfl
def fL_isNoneX_c3 (f1 f2 : Nat → Int32) : Nat → Int32 → Int32 → Int32 → xSt → Option (Int32 × xSt)
  | 0 => fun _ _ _ _ => none
  | n + 1 => fun a2 a3 a4 σ => (if 10 < a4 then some (1, σ) else fL_isNoneX_c13 f1 f2 (fL_isNoneX_c3 f1 f2 n) xFU a2 a3 a4 0 σ)
theorem fL_isNoneX_c3_s (f1 f2 : Nat → Int32) (n : Nat) (a2 : Int32) (a3 : Int32) (a4 : Int32) (σ : xSt) : fL_isNoneX_c3 f1 f2 (n + 1) a2 a3 a4 σ = ((if 10 < a4 then some (1, σ) else fL_isNoneX_c13 f1 f2 (fL_isNoneX_c3 f1 f2 n) xFU a2 a3 a4 0 σ) : Option (Int32 × xSt)) := rfl
def fL_isNoneX (f1 f2 : Nat → Int32) (p2 p3 : Int32) (σ : xSt) : Option (Int32 × xSt) := fL_isNoneX_c3 f1 f2 xFU p2 p3 0 σ
abbrev rmL_isNoneXX : Room := { frames := 0, cells := 0, slots := 0, locals := 0 }
set_option maxRecDepth 100000 in
set_option maxHeartbeats 16000000 in
theorem mL_isNoneX {l : Launch} (hl0 : l.stackTraces = false) {E : xE} (hE : xLE E) {X : va_W} (q1 q2 : Nat) (f1 f2 : Nat → Int32) (hm1 : (q1, xInts E.cA 4 f1) ∈ X) (hm2 : (q2, xInts E.cA 4 f2) ∈ X) (p2 p3 : Int32) (σ : xSt) (o1 : Int32) (o2 : xSt) (hf : fL_isNoneX f1 f2 p2 p3 σ = some (o1, o2)) : xLi l yL_isNone wsL_isNone rmL_isNoneX (xPlus E X) [.ref q1, .ref q2, .int p2, .int p3] σ o1 o2 0 0 := by
  unfold fL_isNoneX at hf
  refine xLi_of (cc := cL_isNone) (maxL := 9) (ret := (some .boolean)) (by decide) rfl (Nat.le_of_ble_eq_true rfl) ?_
  intro p e s m args below meth c A ls ⟨hx, hb, hr, hml, hown, hts, hlk⟩ hA hGL hw hl
  have hG := hGL.1
  have hown : s.vm.findClass RL = some m.cls := hown
  have hl : lv_has ls 9 [(0, .ref q1), (1, .ref q2), (2, .int p2), (3, .int p3)] := hl
  have h3 : ∀ (n : Nat) (a2 : Int32) (a3 : Int32) (a4 : Int32) (σ : xSt) (H : Heap) (locs : List Loc) (ls : Array Slot) (nc ns : Nat), xw (xPlus E X) A s.heap s σ H locs → lv_has ls 9 [(0, .ref q1), (1, .ref q2), (2, .int a2), (3, .int a3), (4, .int a4)] → fL_isNoneX_c3 f1 f2 n a2 a3 a4 σ = some (o1, o2) → nc + (0) ≤ 0 → ns + (0) ≤ 0 → W p l e rmL_isNoneX s m args below meth c H locs nc ns (MQ below (xQi (xPlus E X) A o1 o2) args s 0 0 A) (F0 m 3 ls []) := by
    intro n3
    induction n3 with
    | zero => intro a2 a3 a4 σ H locs ls nc ns hw hl hf hnc hns; exact nomatch hf
    | succ n3 ih3 =>
      have h13 : ∀ (n : Nat) (a2 : Int32) (a3 : Int32) (a4 : Int32) (a5 : Int32) (σ : xSt) (H : Heap) (locs : List Loc) (ls : Array Slot) (nc ns : Nat), xw (xPlus E X) A s.heap s σ H locs → lv_has ls 9 [(0, .ref q1), (1, .ref q2), (2, .int a2), (3, .int a3), (4, .int a4), (5, .int a5)] → fL_isNoneX_c13 f1 f2 (fL_isNoneX_c3 f1 f2 n3) n a2 a3 a4 a5 σ = some (o1, o2) → nc + (0) ≤ 0 → ns + (0) ≤ 0 → W p l e rmL_isNoneX s m args below meth c H locs nc ns (MQ below (xQi (xPlus E X) A o1 o2) args s 0 0 A) (F0 m 13 ls []) := by
        intro n13
        induction n13 with
        | zero => intro a2 a3 a4 a5 σ H locs ls nc ns hw hl hf hnc hns; exact nomatch hf
        | succ n13 ih13 =>
          have h26 : ∀ (n : Nat) (a2 : Int32) (a3 : Int32) (a4 : Int32) (a5 : Int32) (a6 : Int32) (σ : xSt) (H : Heap) (locs : List Loc) (ls : Array Slot) (nc ns : Nat), xw (xPlus E X) A s.heap s σ H locs → lv_has ls 9 [(0, .ref q1), (1, .ref q2), (2, .int a2), (3, .int a3), (4, .int a4), (5, .int a5), (6, .int a6)] → fL_isNoneX_c26 f1 f2 (fL_isNoneX_c3 f1 f2 n3) (fL_isNoneX_c13 f1 f2 (fL_isNoneX_c3 f1 f2 n3) n13) n a2 a3 a4 a5 a6 σ = some (o1, o2) → nc + (0) ≤ 0 → ns + (0) ≤ 0 → W p l e rmL_isNoneX s m args below meth c H locs nc ns (MQ below (xQi (xPlus E X) A o1 o2) args s 0 0 A) (F0 m 26 ls []) := by
            intro n26
            induction n26 with
            | zero => intro a2 a3 a4 a5 a6 σ H locs ls nc ns hw hl hf hnc hns; exact nomatch hf
            | succ n26 ih26 =>
              intro a2 a3 a4 a5 a6 σ H locs ls nc ns hw hl hf hnc hns
              rw [fL_isNoneX_c26_s] at hf
              refine lv_iload hx hb dL_isNone_26 (lv_at hl 4 rfl) ?_
              refine lv_iload hx hb dL_isNone_28 (lv_at hl 5 rfl) ?_
              refine lv_iadd hx hb dL_isNone_30 ?_
              refine lv_iload hx hb dL_isNone_31 (lv_at hl 6 rfl) ?_
              refine lv_iadd hx hb dL_isNone_33 ?_
              refine lv_bipush (v := 10) hx hb dL_isNone_34 (by decide) ?_
              refine lv_icmp_gt (tgt := 151) hx hb dL_isNone_36 (by decide) (fun c36 => ?_) (fun c36 => ?_)
              · replace hf := xif_pos c36 hf
                obtain ⟨v2, ex⟩ : ∃ y : Int32, y = (a5 + 1) := ⟨_, rfl⟩
                replace hf := xl_f hf v2 ex
                refine lv_iinc (v := v2) (lv' := [(5, .int v2), (0, .ref q1), (1, .ref q2), (2, .int a2), (3, .int a3), (4, .int a4), (6, .int a6)]) hx hb dL_isNone_151 hl (k := 5) rfl (by rw [ex]; rfl) (by decide) rfl (fun ls hl => ?_)
                clear ex
                refine lv_goto (tgt := 13) hx hb dL_isNone_154 (by decide) ?_
                exact ih13 a2 a3 a4 v2 σ _ _ _ nc ns hw (lv_sub hl [1, 2, 3, 4, 5, 0] rfl) hf (by omega) (by omega)
              · replace hf := xif_neg c36 hf
                refine lv_bipush (v := 10) hx hb dL_isNone_39 (by decide) ?_
                refine lv_iload hx hb dL_isNone_41 (lv_at hl 4 rfl) ?_
                refine lv_isub hx hb dL_isNone_43 ?_
                refine lv_iload hx hb dL_isNone_44 (lv_at hl 5 rfl) ?_
                refine lv_isub hx hb dL_isNone_46 ?_
                refine lv_iload hx hb dL_isNone_47 (lv_at hl 6 rfl) ?_
                refine lv_isub hx hb dL_isNone_49 ?_
                refine lv_topi (fun v3 ex => ?_)
                replace hf := xl_f hf v3 ex
                clear ex
                refine lv_istore (lv' := [(7, .int v3), (0, .ref q1), (1, .ref q2), (2, .int a2), (3, .int a3), (4, .int a4), (5, .int a5), (6, .int a6)]) hx hb dL_isNone_50 hl (by decide) rfl (fun ls hl => ?_)
                refine lv_iload hx hb dL_isNone_52 (lv_at hl 5 rfl) ?_
                refine lv_aload_n hx hb dL_isNone_54 rfl (lv_at hl 1 rfl) ?_
                refine lv_iconst (v := 0) hx hb dL_isNone_55 (by decide) ?_
                obtain ⟨hin, hf⟩ := xrs_f hf
                refine x_rld hx hb hw hm1 hin dL_isNone_56 ?_
                refine lv_topi (fun v4 ex => ?_)
                replace hf := hf v4 ex
                clear ex hin
                refine lv_imul hx hb dL_isNone_57 ?_
                refine lv_iload hx hb dL_isNone_58 (lv_at hl 6 rfl) ?_
                refine lv_aload_n hx hb dL_isNone_60 rfl (lv_at hl 1 rfl) ?_
                refine lv_iconst (v := 1) hx hb dL_isNone_61 (by decide) ?_
                obtain ⟨hin, hf⟩ := xrs_f hf
                refine x_rld hx hb hw hm1 hin dL_isNone_62 ?_
                refine lv_topi (fun v5 ex => ?_)
                replace hf := hf v5 ex
                clear ex hin
                refine lv_imul hx hb dL_isNone_63 ?_
                refine lv_iadd hx hb dL_isNone_64 ?_
                refine lv_iload hx hb dL_isNone_65 (lv_at hl 7 rfl) ?_
                refine lv_aload_n hx hb dL_isNone_67 rfl (lv_at hl 1 rfl) ?_
                refine lv_iconst (v := 2) hx hb dL_isNone_68 (by decide) ?_
                obtain ⟨hin, hf⟩ := xrs_f hf
                refine x_rld hx hb hw hm1 hin dL_isNone_69 ?_
                refine lv_topi (fun v6 ex => ?_)
                replace hf := hf v6 ex
                clear ex hin
                refine lv_imul hx hb dL_isNone_70 ?_
                refine lv_iadd hx hb dL_isNone_71 ?_
                refine lv_iload hx hb dL_isNone_72 (lv_at hl 0 rfl) ?_
                refine lv_aload_n hx hb dL_isNone_74 rfl (lv_at hl 1 rfl) ?_
                refine lv_iconst (v := 3) hx hb dL_isNone_75 (by decide) ?_
                obtain ⟨hin, hf⟩ := xrs_f hf
                refine x_rld hx hb hw hm1 hin dL_isNone_76 ?_
                refine lv_topi (fun v7 ex => ?_)
                replace hf := hf v7 ex
                clear ex hin
                refine lv_imul hx hb dL_isNone_77 ?_
                refine lv_iadd hx hb dL_isNone_78 ?_
                refine lv_topi (fun v8 ex => ?_)
                replace hf := xl_f hf v8 ex
                clear ex
                refine lv_istore (lv' := [(8, .int v8), (7, .int v3), (0, .ref q1), (1, .ref q2), (2, .int a2), (3, .int a3), (4, .int a4), (5, .int a5), (6, .int a6)]) hx hb dL_isNone_79 hl (by decide) rfl (fun ls hl => ?_)
                refine lv_bipush (v := 10) hx hb dL_isNone_81 (by decide) ?_
                refine lv_iload hx hb dL_isNone_83 (lv_at hl 6 rfl) ?_
                refine lv_imul hx hb dL_isNone_85 ?_
                refine lv_aload_n hx hb dL_isNone_86 rfl (lv_at hl 3 rfl) ?_
                refine lv_iconst (v := 0) hx hb dL_isNone_87 (by decide) ?_
                obtain ⟨hin, hf⟩ := xrs_f hf
                refine x_rld hx hb hw hm2 hin dL_isNone_88 ?_
                refine lv_topi (fun v9 ex => ?_)
                replace hf := hf v9 ex
                clear ex hin
                refine lv_icmp_gt (tgt := 145) hx hb dL_isNone_89 (by decide) (fun c89 => ?_) (fun c89 => ?_)
                · replace hf := xif_pos c89 hf
                  obtain ⟨v10, ex⟩ : ∃ y : Int32, y = (a6 + 1) := ⟨_, rfl⟩
                  replace hf := xl_f hf v10 ex
                  refine lv_iinc (v := v10) (lv' := [(6, .int v10), (8, .int v8), (7, .int v3), (0, .ref q1), (1, .ref q2), (2, .int a2), (3, .int a3), (4, .int a4), (5, .int a5)]) hx hb dL_isNone_145 hl (k := 8) rfl (by rw [ex]; rfl) (by decide) rfl (fun ls hl => ?_)
                  clear ex
                  refine lv_goto (tgt := 26) hx hb dL_isNone_148 (by decide) ?_
                  exact ih26 a2 a3 a4 a5 v10 σ _ _ _ nc ns hw (lv_sub hl [3, 4, 5, 6, 7, 8, 0] rfl) hf (by omega) (by omega)
                · replace hf := xif_neg c89 hf
                  refine lv_bipush (v := 10) hx hb dL_isNone_92 (by decide) ?_
                  refine lv_iload hx hb dL_isNone_94 (lv_at hl 7 rfl) ?_
                  refine lv_imul hx hb dL_isNone_96 ?_
                  refine lv_aload_n hx hb dL_isNone_97 rfl (lv_at hl 3 rfl) ?_
                  refine lv_iconst (v := 1) hx hb dL_isNone_98 (by decide) ?_
                  obtain ⟨hin, hf⟩ := xrs_f hf
                  refine x_rld hx hb hw hm2 hin dL_isNone_99 ?_
                  refine lv_topi (fun v11 ex => ?_)
                  replace hf := hf v11 ex
                  clear ex hin
                  refine lv_icmp_gt (tgt := 145) hx hb dL_isNone_100 (by decide) (fun c100 => ?_) (fun c100 => ?_)
                  · replace hf := xif_pos c100 hf
                    obtain ⟨v12, ex⟩ : ∃ y : Int32, y = (a6 + 1) := ⟨_, rfl⟩
                    replace hf := xl_f hf v12 ex
                    refine lv_iinc (v := v12) (lv' := [(6, .int v12), (8, .int v8), (7, .int v3), (0, .ref q1), (1, .ref q2), (2, .int a2), (3, .int a3), (4, .int a4), (5, .int a5)]) hx hb dL_isNone_145 hl (k := 8) rfl (by rw [ex]; rfl) (by decide) rfl (fun ls hl => ?_)
                    clear ex
                    refine lv_goto (tgt := 26) hx hb dL_isNone_148 (by decide) ?_
                    exact ih26 a2 a3 a4 a5 v12 σ _ _ _ nc ns hw (lv_sub hl [3, 4, 5, 6, 7, 8, 0] rfl) hf (by omega) (by omega)
                  · replace hf := xif_neg c100 hf
                    refine lv_bipush (v := 10) hx hb dL_isNone_103 (by decide) ?_
                    refine lv_iload hx hb dL_isNone_105 (lv_at hl 8 rfl) ?_
                    refine lv_imul hx hb dL_isNone_107 ?_
                    refine lv_aload_n hx hb dL_isNone_108 rfl (lv_at hl 3 rfl) ?_
                    refine lv_iconst (v := 2) hx hb dL_isNone_109 (by decide) ?_
                    obtain ⟨hin, hf⟩ := xrs_f hf
                    refine x_rld hx hb hw hm2 hin dL_isNone_110 ?_
                    refine lv_topi (fun v13 ex => ?_)
                    replace hf := hf v13 ex
                    clear ex hin
                    refine lv_icmp_gt (tgt := 145) hx hb dL_isNone_111 (by decide) (fun c111 => ?_) (fun c111 => ?_)
                    · replace hf := xif_pos c111 hf
                      obtain ⟨v14, ex⟩ : ∃ y : Int32, y = (a6 + 1) := ⟨_, rfl⟩
                      replace hf := xl_f hf v14 ex
                      refine lv_iinc (v := v14) (lv' := [(6, .int v14), (8, .int v8), (7, .int v3), (0, .ref q1), (1, .ref q2), (2, .int a2), (3, .int a3), (4, .int a4), (5, .int a5)]) hx hb dL_isNone_145 hl (k := 8) rfl (by rw [ex]; rfl) (by decide) rfl (fun ls hl => ?_)
                      clear ex
                      refine lv_goto (tgt := 26) hx hb dL_isNone_148 (by decide) ?_
                      exact ih26 a2 a3 a4 a5 v14 σ _ _ _ nc ns hw (lv_sub hl [3, 4, 5, 6, 7, 8, 0] rfl) hf (by omega) (by omega)
                    · replace hf := xif_neg c111 hf
                      refine lv_bipush (v := 10) hx hb dL_isNone_114 (by decide) ?_
                      refine lv_iload hx hb dL_isNone_116 (lv_at hl 1 rfl) ?_
                      refine lv_imul hx hb dL_isNone_118 ?_
                      refine lv_aload_n hx hb dL_isNone_119 rfl (lv_at hl 3 rfl) ?_
                      refine lv_iconst (v := 3) hx hb dL_isNone_120 (by decide) ?_
                      obtain ⟨hin, hf⟩ := xrs_f hf
                      refine x_rld hx hb hw hm2 hin dL_isNone_121 ?_
                      refine lv_topi (fun v15 ex => ?_)
                      replace hf := hf v15 ex
                      clear ex hin
                      refine lv_icmp_gt (tgt := 145) hx hb dL_isNone_122 (by decide) (fun c122 => ?_) (fun c122 => ?_)
                      · replace hf := xif_pos c122 hf
                        obtain ⟨v16, ex⟩ : ∃ y : Int32, y = (a6 + 1) := ⟨_, rfl⟩
                        replace hf := xl_f hf v16 ex
                        refine lv_iinc (v := v16) (lv' := [(6, .int v16), (8, .int v8), (7, .int v3), (0, .ref q1), (1, .ref q2), (2, .int a2), (3, .int a3), (4, .int a4), (5, .int a5)]) hx hb dL_isNone_145 hl (k := 8) rfl (by rw [ex]; rfl) (by decide) rfl (fun ls hl => ?_)
                        clear ex
                        refine lv_goto (tgt := 26) hx hb dL_isNone_148 (by decide) ?_
                        exact ih26 a2 a3 a4 a5 v16 σ _ _ _ nc ns hw (lv_sub hl [3, 4, 5, 6, 7, 8, 0] rfl) hf (by omega) (by omega)
                      · replace hf := xif_neg c122 hf
                        refine lv_iload hx hb dL_isNone_125 (lv_at hl 0 rfl) ?_
                        refine lv_bipush (v := 10) hx hb dL_isNone_127 (by decide) ?_
                        refine lv_iload_n hx hb dL_isNone_129 rfl (lv_at hl 4 rfl) ?_
                        refine lv_imul hx hb dL_isNone_130 ?_
                        refine lv_icmp_lt (tgt := 145) hx hb dL_isNone_131 (by decide) (fun c131 => ?_) (fun c131 => ?_)
                        · replace hf := xif_pos c131 hf
                          obtain ⟨v17, ex⟩ : ∃ y : Int32, y = (a6 + 1) := ⟨_, rfl⟩
                          replace hf := xl_f hf v17 ex
                          refine lv_iinc (v := v17) (lv' := [(6, .int v17), (8, .int v8), (7, .int v3), (0, .ref q1), (1, .ref q2), (2, .int a2), (3, .int a3), (4, .int a4), (5, .int a5)]) hx hb dL_isNone_145 hl (k := 8) rfl (by rw [ex]; rfl) (by decide) rfl (fun ls hl => ?_)
                          clear ex
                          refine lv_goto (tgt := 26) hx hb dL_isNone_148 (by decide) ?_
                          exact ih26 a2 a3 a4 a5 v17 σ _ _ _ nc ns hw (lv_sub hl [3, 4, 5, 6, 7, 8, 0] rfl) hf (by omega) (by omega)
                        · replace hf := xif_neg c131 hf
                          refine lv_iload hx hb dL_isNone_134 (lv_at hl 0 rfl) ?_
                          refine lv_bipush (v := 10) hx hb dL_isNone_136 (by decide) ?_
                          refine lv_iload_n hx hb dL_isNone_138 rfl (lv_at hl 5 rfl) ?_
                          refine lv_imul hx hb dL_isNone_139 ?_
                          refine lv_icmp_gt (tgt := 145) hx hb dL_isNone_140 (by decide) (fun c140 => ?_) (fun c140 => ?_)
                          · replace hf := xif_pos c140 hf
                            obtain ⟨v18, ex⟩ : ∃ y : Int32, y = (a6 + 1) := ⟨_, rfl⟩
                            replace hf := xl_f hf v18 ex
                            refine lv_iinc (v := v18) (lv' := [(6, .int v18), (8, .int v8), (7, .int v3), (0, .ref q1), (1, .ref q2), (2, .int a2), (3, .int a3), (4, .int a4), (5, .int a5)]) hx hb dL_isNone_145 hl (k := 8) rfl (by rw [ex]; rfl) (by decide) rfl (fun ls hl => ?_)
                            clear ex
                            refine lv_goto (tgt := 26) hx hb dL_isNone_148 (by decide) ?_
                            exact ih26 a2 a3 a4 a5 v18 σ _ _ _ nc ns hw (lv_sub hl [3, 4, 5, 6, 7, 8, 0] rfl) hf (by omega) (by omega)
                          · replace hf := xif_neg c140 hf
                            refine lv_iconst (v := 0) hx hb dL_isNone_143 (by decide) ?_
                            exact x_Lzretc hx hb hr hlk hw (by decide) hf (show nc ≤ 0 by omega) (show ns ≤ 0 by omega) dL_isNone_144
          intro a2 a3 a4 a5 σ H locs ls nc ns hw hl hf hnc hns
          rw [fL_isNoneX_c13_s] at hf
          refine lv_iload hx hb dL_isNone_13 (lv_at hl 4 rfl) ?_
          refine lv_iload hx hb dL_isNone_15 (lv_at hl 5 rfl) ?_
          refine lv_iadd hx hb dL_isNone_17 ?_
          refine lv_bipush (v := 10) hx hb dL_isNone_18 (by decide) ?_
          refine lv_icmp_gt (tgt := 157) hx hb dL_isNone_20 (by decide) (fun c20 => ?_) (fun c20 => ?_)
          · replace hf := xif_pos c20 hf
            obtain ⟨v1, ex⟩ : ∃ y : Int32, y = (a4 + 1) := ⟨_, rfl⟩
            replace hf := xl_f hf v1 ex
            refine lv_iinc (v := v1) (lv' := [(4, .int v1), (0, .ref q1), (1, .ref q2), (2, .int a2), (3, .int a3), (5, .int a5)]) hx hb dL_isNone_157 hl (k := 4) rfl (by rw [ex]; rfl) (by decide) rfl (fun ls hl => ?_)
            clear ex
            refine lv_goto (tgt := 3) hx hb dL_isNone_160 (by decide) ?_
            exact ih3 a2 a3 v1 σ _ _ _ nc ns hw (lv_sub hl [1, 2, 3, 4, 0] rfl) hf (by omega) (by omega)
          · replace hf := xif_neg c20 hf
            refine lv_iconst (v := 0) hx hb dL_isNone_23 (by decide) ?_
            refine lv_istore (lv' := [(6, .int 0), (0, .ref q1), (1, .ref q2), (2, .int a2), (3, .int a3), (4, .int a4), (5, .int a5)]) hx hb dL_isNone_24 hl (by decide) rfl (fun ls hl => ?_)
            exact h26 xFU a2 a3 a4 a5 0 σ _ _ _ nc ns hw (lv_sub hl [1, 2, 3, 4, 5, 6, 0] rfl) hf (by omega) (by omega)
      intro a2 a3 a4 σ H locs ls nc ns hw hl hf hnc hns
      rw [fL_isNoneX_c3_s] at hf
      refine lv_iload hx hb dL_isNone_3 (lv_at hl 4 rfl) ?_
      refine lv_bipush (v := 10) hx hb dL_isNone_5 (by decide) ?_
      refine lv_icmp_gt (tgt := 163) hx hb dL_isNone_7 (by decide) (fun c7 => ?_) (fun c7 => ?_)
      · replace hf := xif_pos c7 hf
        refine lv_iconst (v := 1) hx hb dL_isNone_163 (by decide) ?_
        exact x_Lzretc hx hb hr hlk hw (by decide) hf (show nc ≤ 0 by omega) (show ns ≤ 0 by omega) dL_isNone_164
      · replace hf := xif_neg c7 hf
        refine lv_iconst (v := 0) hx hb dL_isNone_10 (by decide) ?_
        refine lv_istore (lv' := [(5, .int 0), (0, .ref q1), (1, .ref q2), (2, .int a2), (3, .int a3), (4, .int a4)]) hx hb dL_isNone_11 hl (by decide) rfl (fun ls hl => ?_)
        exact h13 xFU a2 a3 a4 0 σ _ _ _ nc ns hw (lv_sub hl [1, 2, 3, 4, 5, 0] rfl) hf (by omega) (by omega)
  refine lv_iconst (v := 0) hx hb dL_isNone_0 (by decide) ?_
  refine lv_istore (lv' := [(4, .int 0), (0, .ref q1), (1, .ref q2), (2, .int p2), (3, .int p3)]) hx hb dL_isNone_1 hl (by decide) rfl (fun ls hl => ?_)
  exact h3 xFU p2 p3 0 σ _ _ _ 0 0 hw (lv_sub hl [1, 2, 3, 4, 0] rfl) hf (by omega) (by omega)
