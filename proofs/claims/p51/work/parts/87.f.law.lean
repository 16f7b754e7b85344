/-! ===== DOUBLES, AND A CALL THAT MAY BE CAUGHT ===== -/
def xtr {β : Type} (f : Option (xO × xSt)) (ρ : xSt) (k : Nat) (K : Int32 → xSt → Option β) (J : xSt → Option β) : Option β := match f with | some (.inl r, σ) => K r (xmix σ ρ) | some (.inr j, σ) => if j = k then J (xmix σ ρ) else none | none => none
theorem xtr_f {β : Type} {f : Option (xO × xSt)} {ρ : xSt} {k : Nat} {K : Int32 → xSt → Option β} {J : xSt → Option β} {o : β} (h : xtr f ρ k K J = some o) : (∃ r σ, f = some (.inl r, σ) ∧ ∀ σ1, σ1 = xmix σ ρ → K r σ1 = some o) ∨ (∃ σ, f = some (.inr k, σ) ∧ ∀ σ1, σ1 = xmix σ ρ → J σ1 = some o) := by
  unfold xtr at h
  split at h
  · exact Or.inl ⟨_, _, rfl, fun σ1 e => by rw [e]; exact h⟩
  · split at h
    · rename_i e; subst e; exact Or.inr ⟨_, rfl, fun σ1 e => by rw [e]; exact h⟩
    · cases h
  · cases h
def fL_isNoneX_c26 (f1 f2 : Nat → Int32) (k3 : (Int32 → Int32 → Int32 → xSt → Option (Int32 × xSt))) (k13 : (Int32 → Int32 → Int32 → Int32 → xSt → Option (Int32 × xSt))) : Nat → Int32 → Int32 → Int32 → Int32 → Int32 → xSt → Option (Int32 × xSt)
  | 0 => fun _ _ _ _ _ _ => none
  | n + 1 => fun a2 a3 a4 a5 a6 σ => (if 10 < ((a4 + a5) + a6) then (xl (a5 + 1) fun v2 => k13 a2 a3 a4 v2 σ) else (xl (((10 - a4) - a5) - a6) fun v3 => (xrs f1 4 0 fun v4 => (xrs f1 4 1 fun v5 => (xrs f1 4 2 fun v6 => (xrs f1 4 3 fun v7 => (xl ((((a4 * v4) + (a5 * v5)) + (a6 * v6)) + (v3 * v7)) fun v8 => (xrs f2 4 0 fun v9 => (if v9 < (10 * a4) then (xl (a6 + 1) fun v10 => fL_isNoneX_c26 f1 f2 k3 k13 n a2 a3 a4 a5 v10 σ) else (xrs f2 4 1 fun v11 => (if v11 < (10 * a5) then (xl (a6 + 1) fun v12 => fL_isNoneX_c26 f1 f2 k3 k13 n a2 a3 a4 a5 v12 σ) else (xrs f2 4 2 fun v13 => (if v13 < (10 * a6) then (xl (a6 + 1) fun v14 => fL_isNoneX_c26 f1 f2 k3 k13 n a2 a3 a4 a5 v14 σ) else (xrs f2 4 3 fun v15 => (if v15 < (10 * v3) then (xl (a6 + 1) fun v16 => fL_isNoneX_c26 f1 f2 k3 k13 n a2 a3 a4 a5 v16 σ) else (if v8 < (10 * a2) then (xl (a6 + 1) fun v17 => fL_isNoneX_c26 f1 f2 k3 k13 n a2 a3 a4 a5 v17 σ) else (if (10 * a3) < v8 then (xl (a6 + 1) fun v18 => fL_isNoneX_c26 f1 f2 k3 k13 n a2 a3 a4 a5 v18 σ) else some (0, σ))))))))))))))))))
theorem fL_isNoneX_c26_s (f1 f2 : Nat → Int32) (k3 : (Int32 → Int32 → Int32 → xSt → Option (Int32 × xSt))) (k13 : (Int32 → Int32 → Int32 → Int32 → xSt → Option (Int32 × xSt))) (n : Nat) (a2 : Int32) (a3 : Int32) (a4 : Int32) (a5 : Int32) (a6 : Int32) (σ : xSt) : fL_isNoneX_c26 f1 f2 k3 k13 (n + 1) a2 a3 a4 a5 a6 σ = ((if 10 < ((a4 + a5) + a6) then (xl (a5 + 1) fun v2 => k13 a2 a3 a4 v2 σ) else (xl (((10 - a4) - a5) - a6) fun v3 => (xrs f1 4 0 fun v4 => (xrs f1 4 1 fun v5 => (xrs f1 4 2 fun v6 => (xrs f1 4 3 fun v7 => (xl ((((a4 * v4) + (a5 * v5)) + (a6 * v6)) + (v3 * v7)) fun v8 => (xrs f2 4 0 fun v9 => (if v9 < (10 * a4) then (xl (a6 + 1) fun v10 => fL_isNoneX_c26 f1 f2 k3 k13 n a2 a3 a4 a5 v10 σ) else (xrs f2 4 1 fun v11 => (if v11 < (10 * a5) then (xl (a6 + 1) fun v12 => fL_isNoneX_c26 f1 f2 k3 k13 n a2 a3 a4 a5 v12 σ) else (xrs f2 4 2 fun v13 => (if v13 < (10 * a6) then (xl (a6 + 1) fun v14 => fL_isNoneX_c26 f1 f2 k3 k13 n a2 a3 a4 a5 v14 σ) else (xrs f2 4 3 fun v15 => (if v15 < (10 * v3) then (xl (a6 + 1) fun v16 => fL_isNoneX_c26 f1 f2 k3 k13 n a2 a3 a4 a5 v16 σ) else (if v8 < (10 * a2) then (xl (a6 + 1) fun v17 => fL_isNoneX_c26 f1 f2 k3 k13 n a2 a3 a4 a5 v17 σ) else (if (10 * a3) < v8 then (xl (a6 + 1) fun v18 => fL_isNoneX_c26 f1 f2 k3 k13 n a2 a3 a4 a5 v18 σ) else some (0, σ)))))))))))))))))) : Option (Int32 × xSt)) := rfl
def fL_isNoneX_c13 (f1 f2 : Nat → Int32) (k3 : (Int32 → Int32 → Int32 → xSt → Option (Int32 × xSt))) : Nat → Int32 → Int32 → Int32 → Int32 → xSt → Option (Int32 × xSt)
  | 0 => fun _ _ _ _ _ => none
  | n + 1 => fun a2 a3 a4 a5 σ => (if 10 < (a4 + a5) then (xl (a4 + 1) fun v1 => k3 a2 a3 v1 σ) else fL_isNoneX_c26 f1 f2 k3 (fL_isNoneX_c13 f1 f2 k3 n) xFU a2 a3 a4 a5 0 σ)
theorem fL_isNoneX_c13_s (f1 f2 : Nat → Int32) (k3 : (Int32 → Int32 → Int32 → xSt → Option (Int32 × xSt))) (n : Nat) (a2 : Int32) (a3 : Int32) (a4 : Int32) (a5 : Int32) (σ : xSt) : fL_isNoneX_c13 f1 f2 k3 (n + 1) a2 a3 a4 a5 σ = ((if 10 < (a4 + a5) then (xl (a4 + 1) fun v1 => k3 a2 a3 v1 σ) else fL_isNoneX_c26 f1 f2 k3 (fL_isNoneX_c13 f1 f2 k3 n) xFU a2 a3 a4 a5 0 σ) : Option (Int32 × xSt)) := rfl
def fL_isNoneX_c3 (f1 f2 : Nat → Int32) : Nat → Int32 → Int32 → Int32 → xSt → Option (Int32 × xSt)
  | 0 => fun _ _ _ _ => none
  | n + 1 => fun a2 a3 a4 σ => (if 10 < a4 then some (1, σ) else fL_isNoneX_c13 f1 f2 (fL_isNoneX_c3 f1 f2 n) xFU a2 a3 a4 0 σ)
theorem fL_isNoneX_c3_s (f1 f2 : Nat → Int32) (n : Nat) (a2 : Int32) (a3 : Int32) (a4 : Int32) (σ : xSt) : fL_isNoneX_c3 f1 f2 (n + 1) a2 a3 a4 σ = ((if 10 < a4 then some (1, σ) else fL_isNoneX_c13 f1 f2 (fL_isNoneX_c3 f1 f2 n) xFU a2 a3 a4 0 σ) : Option (Int32 × xSt)) := rfl
def fL_isNoneX (f1 f2 : Nat → Int32) (p2 p3 : Int32) (σ : xSt) : Option (Int32 × xSt) := fL_isNoneX_c3 f1 f2 xFU p2 p3 0 σ
set_option maxRecDepth 100000 in
set_option maxHeartbeats 16000000 in
theorem mL_isNoneX {l : Launch} (hl0 : l.stackTraces = false) {E : xE} (hE : xLE E) {X : va_W} (q1 q2 : Nat) (f1 f2 : Nat → Int32) (hm1 : (q1, xInts E.cA 4 f1) ∈ X) (hm2 : (q2, xInts E.cA 4 f2) ∈ X) (p2 p3 : Int32) (σ : xSt) (o1 : Int32) (o2 : xSt) (hf : fL_isNoneX f1 f2 p2 p3 σ = some (o1, o2)) : xLi l yL_isNone wsL_isNone rmL_isNone (xPlus E X) [.ref q1, .ref q2, .int p2, .int p3] σ o1 o2 0 0 := by
  unfold fL_isNoneX at hf
  refine xLi_of (cc := cL_isNone) (maxL := 9) (ret := (some .boolean)) (by decide) rfl (Nat.le_of_ble_eq_true rfl) ?_
  intro p e s m args below meth c A ls ⟨hx, hb, hr, hml, hown, hts, hlk⟩ hA hGL hw hl
  have hG := hGL.1
  have hown : s.vm.findClass RL = some m.cls := hown
  have hl : lv_has ls 9 [(0, .ref q1), (1, .ref q2), (2, .int p2), (3, .int p3)] := hl
  have h3 : ∀ (n : Nat) (a2 : Int32) (a3 : Int32) (a4 : Int32) (σ : xSt) (H : Heap) (locs : List Loc) (ls : Array Slot) (nc ns : Nat), xw (xPlus E X) A s.heap s σ H locs → lv_has ls 9 [(0, .ref q1), (1, .ref q2), (2, .int a2), (3, .int a3), (4, .int a4)] → fL_isNoneX_c3 f1 f2 n a2 a3 a4 σ = some (o1, o2) → nc + (0) ≤ 0 → ns + (0) ≤ 0 → W p l e rmL_isNone s m args below meth c H locs nc ns (MQ below (xQi (xPlus E X) A o1 o2) args s 0 0 A) (F0 m 3 ls []) := by
    intro n3
    induction n3 with
    | zero => intro a2 a3 a4 σ H locs ls nc ns hw hl hf hnc hns; exact nomatch hf
    | succ n3 ih3 =>
      have h13 : ∀ (n : Nat) (a2 : Int32) (a3 : Int32) (a4 : Int32) (a5 : Int32) (σ : xSt) (H : Heap) (locs : List Loc) (ls : Array Slot) (nc ns : Nat), xw (xPlus E X) A s.heap s σ H locs → lv_has ls 9 [(0, .ref q1), (1, .ref q2), (2, .int a2), (3, .int a3), (4, .int a4), (5, .int a5)] → fL_isNoneX_c13 f1 f2 (fL_isNoneX_c3 f1 f2 n3) n a2 a3 a4 a5 σ = some (o1, o2) → nc + (0) ≤ 0 → ns + (0) ≤ 0 → W p l e rmL_isNone s m args below meth c H locs nc ns (MQ below (xQi (xPlus E X) A o1 o2) args s 0 0 A) (F0 m 13 ls []) := by
        intro n13
        induction n13 with
        | zero => intro a2 a3 a4 a5 σ H locs ls nc ns hw hl hf hnc hns; exact nomatch hf
        | succ n13 ih13 =>
          have h26 : ∀ (n : Nat) (a2 : Int32) (a3 : Int32) (a4 : Int32) (a5 : Int32) (a6 : Int32) (σ : xSt) (H : Heap) (locs : List Loc) (ls : Array Slot) (nc ns : Nat), xw (xPlus E X) A s.heap s σ H locs → lv_has ls 9 [(0, .ref q1), (1, .ref q2), (2, .int a2), (3, .int a3), (4, .int a4), (5, .int a5), (6, .int a6)] → fL_isNoneX_c26 f1 f2 (fL_isNoneX_c3 f1 f2 n3) (fL_isNoneX_c13 f1 f2 (fL_isNoneX_c3 f1 f2 n3) n13) n a2 a3 a4 a5 a6 σ = some (o1, o2) → nc + (0) ≤ 0 → ns + (0) ≤ 0 → W p l e rmL_isNone s m args below meth c H locs nc ns (MQ below (xQi (xPlus E X) A o1 o2) args s 0 0 A) (F0 m 26 ls []) := by
            intro n26
            induction n26 with
            | zero => intro a2 a3 a4 a5 a6 σ H locs ls nc ns hw hl hf hnc hns; exact nomatch hf
            | succ n26 ih26 =>
              intro a2 a3 a4 a5 a6 σ H locs ls nc ns hw hl hf hnc hns
              rw [fL_isNoneX_c26_s] at hf
              refine lv_iload hx hb dL_isNone_26 (lv_at hl 4 rfl) ?_
              refine lv_iload hx hb dL_isNone_28 (lv_at hl 5 rfl) ?_
              refine lv_iadd hx hb dL_isNone_30 ?_
              refine lv_iload hx hb dL_isNone_31 (lv_at hl 6 rfl) ?_
              refine lv_iadd hx hb dL_isNone_33 ?_
              refine lv_bipush (v := 10) hx hb dL_isNone_34 (by decide) ?_
              refine lv_icmp_gt (tgt := 151) hx hb dL_isNone_36 (by decide) (fun c36 => ?_) (fun c36 => ?_)
              · replace hf := xif_pos c36 hf
                obtain ⟨v2, ex⟩ : ∃ y : Int32, y = (a5 + 1) := ⟨_, rfl⟩
                replace hf := xl_f hf v2 ex
                refine lv_iinc (v := v2) (lv' := [(5, .int v2), (0, .ref q1), (1, .ref q2), (2, .int a2), (3, .int a3), (4, .int a4), (6, .int a6)]) hx hb dL_isNone_151 hl (k := 5) rfl (by rw [ex]; rfl) (by decide) rfl (fun ls hl => ?_)
                clear ex
                refine lv_goto (tgt := 13) hx hb dL_isNone_154 (by decide) ?_
                exact ih13 a2 a3 a4 v2 σ _ _ _ nc ns hw (lv_sub hl [1, 2, 3, 4, 5, 0] rfl) hf (by omega) (by omega)
              · replace hf := xif_neg c36 hf
                refine lv_bipush (v := 10) hx hb dL_isNone_39 (by decide) ?_
                refine lv_iload hx hb dL_isNone_41 (lv_at hl 4 rfl) ?_
                refine lv_isub hx hb dL_isNone_43 ?_
                refine lv_iload hx hb dL_isNone_44 (lv_at hl 5 rfl) ?_
                refine lv_isub hx hb dL_isNone_46 ?_
                refine lv_iload hx hb dL_isNone_47 (lv_at hl 6 rfl) ?_
                refine lv_isub hx hb dL_isNone_49 ?_
                refine lv_topi (fun v3 ex => ?_)
                replace hf := xl_f hf v3 ex
                clear ex
                refine lv_istore (lv' := [(7, .int v3), (0, .ref q1), (1, .ref q2), (2, .int a2), (3, .int a3), (4, .int a4), (5, .int a5), (6, .int a6)]) hx hb dL_isNone_50 hl (by decide) rfl (fun ls hl => ?_)
                refine lv_iload hx hb dL_isNone_52 (lv_at hl 5 rfl) ?_
                refine lv_aload_n hx hb dL_isNone_54 rfl (lv_at hl 1 rfl) ?_
                refine lv_iconst (v := 0) hx hb dL_isNone_55 (by decide) ?_
                obtain ⟨hin, hf⟩ := xrs_f hf
                refine x_rld hx hb hw hm1 hin dL_isNone_56 ?_
                refine lv_topi (fun v4 ex => ?_)
                replace hf := hf v4 ex
                clear ex hin
                refine lv_imul hx hb dL_isNone_57 ?_
                refine lv_iload hx hb dL_isNone_58 (lv_at hl 6 rfl) ?_
                refine lv_aload_n hx hb dL_isNone_60 rfl (lv_at hl 1 rfl) ?_
                refine lv_iconst (v := 1) hx hb dL_isNone_61 (by decide) ?_
                obtain ⟨hin, hf⟩ := xrs_f hf
                refine x_rld hx hb hw hm1 hin dL_isNone_62 ?_
                refine lv_topi (fun v5 ex => ?_)
                replace hf := hf v5 ex
                clear ex hin
                refine lv_imul hx hb dL_isNone_63 ?_
                refine lv_iadd hx hb dL_isNone_64 ?_
                refine lv_iload hx hb dL_isNone_65 (lv_at hl 7 rfl) ?_
                refine lv_aload_n hx hb dL_isNone_67 rfl (lv_at hl 1 rfl) ?_
                refine lv_iconst (v := 2) hx hb dL_isNone_68 (by decide) ?_
                obtain ⟨hin, hf⟩ := xrs_f hf
                refine x_rld hx hb hw hm1 hin dL_isNone_69 ?_
                refine lv_topi (fun v6 ex => ?_)
                replace hf := hf v6 ex
                clear ex hin
                refine lv_imul hx hb dL_isNone_70 ?_
                refine lv_iadd hx hb dL_isNone_71 ?_
                refine lv_iload hx hb dL_isNone_72 (lv_at hl 0 rfl) ?_
                refine lv_aload_n hx hb dL_isNone_74 rfl (lv_at hl 1 rfl) ?_
                refine lv_iconst (v := 3) hx hb dL_isNone_75 (by decide) ?_
                obtain ⟨hin, hf⟩ := xrs_f hf
                refine x_rld hx hb hw hm1 hin dL_isNone_76 ?_
                refine lv_topi (fun v7 ex => ?_)
                replace hf := hf v7 ex
                clear ex hin
                refine lv_imul hx hb dL_isNone_77 ?_
                refine lv_iadd hx hb dL_isNone_78 ?_
                refine lv_topi (fun v8 ex => ?_)
                replace hf := xl_f hf v8 ex
                clear ex
                refine lv_istore (lv' := [(8, .int v8), (7, .int v3), (0, .ref q1), (1, .ref q2), (2, .int a2), (3, .int a3), (4, .int a4), (5, .int a5), (6, .int a6)]) hx hb dL_isNone_79 hl (by decide) rfl (fun ls hl => ?_)
                refine lv_bipush (v := 10) hx hb dL_isNone_81 (by decide) ?_
                refine lv_iload hx hb dL_isNone_83 (lv_at hl 6 rfl) ?_
                refine lv_imul hx hb dL_isNone_85 ?_
                refine lv_aload_n hx hb dL_isNone_86 rfl (lv_at hl 3 rfl) ?_
                refine lv_iconst (v := 0) hx hb dL_isNone_87 (by decide) ?_
                obtain ⟨hin, hf⟩ := xrs_f hf
                refine x_rld hx hb hw hm2 hin dL_isNone_88 ?_
                refine lv_topi (fun v9 ex => ?_)
                replace hf := hf v9 ex
                clear ex hin
                refine lv_icmp_gt (tgt := 145) hx hb dL_isNone_89 (by decide) (fun c89 => ?_) (fun c89 => ?_)
                · replace hf := xif_pos c89 hf
                  obtain ⟨v10, ex⟩ : ∃ y : Int32, y = (a6 + 1) := ⟨_, rfl⟩
                  replace hf := xl_f hf v10 ex
                  refine lv_iinc (v := v10) (lv' := [(6, .int v10), (8, .int v8), (7, .int v3), (0, .ref q1), (1, .ref q2), (2, .int a2), (3, .int a3), (4, .int a4), (5, .int a5)]) hx hb dL_isNone_145 hl (k := 8) rfl (by rw [ex]; rfl) (by decide) rfl (fun ls hl => ?_)
                  clear ex
                  refine lv_goto (tgt := 26) hx hb dL_isNone_148 (by decide) ?_
                  exact ih26 a2 a3 a4 a5 v10 σ _ _ _ nc ns hw (lv_sub hl [3, 4, 5, 6, 7, 8, 0] rfl) hf (by omega) (by omega)
                · replace hf := xif_neg c89 hf
                  refine lv_bipush (v := 10) hx hb dL_isNone_92 (by decide) ?_
                  refine lv_iload hx hb dL_isNone_94 (lv_at hl 7 rfl) ?_
                  refine lv_imul hx hb dL_isNone_96 ?_
                  refine lv_aload_n hx hb dL_isNone_97 rfl (lv_at hl 3 rfl) ?_
                  refine lv_iconst (v := 1) hx hb dL_isNone_98 (by decide) ?_
                  obtain ⟨hin, hf⟩ := xrs_f hf
                  refine x_rld hx hb hw hm2 hin dL_isNone_99 ?_
                  refine lv_topi (fun v11 ex => ?_)
                  replace hf := hf v11 ex
                  clear ex hin
                  refine lv_icmp_gt (tgt := 145) hx hb dL_isNone_100 (by decide) (fun c100 => ?_) (fun c100 => ?_)
                  · replace hf := xif_pos c100 hf
                    obtain ⟨v12, ex⟩ : ∃ y : Int32, y = (a6 + 1) := ⟨_, rfl⟩
                    replace hf := xl_f hf v12 ex
                    refine lv_iinc (v := v12) (lv' := [(6, .int v12), (8, .int v8), (7, .int v3), (0, .ref q1), (1, .ref q2), (2, .int a2), (3, .int a3), (4, .int a4), (5, .int a5)]) hx hb dL_isNone_145 hl (k := 8) rfl (by rw [ex]; rfl) (by decide) rfl (fun ls hl => ?_)
                    clear ex
                    refine lv_goto (tgt := 26) hx hb dL_isNone_148 (by decide) ?_
                    exact ih26 a2 a3 a4 a5 v12 σ _ _ _ nc ns hw (lv_sub hl [3, 4, 5, 6, 7, 8, 0] rfl) hf (by omega) (by omega)
                  · replace hf := xif_neg c100 hf
                    refine lv_bipush (v := 10) hx hb dL_isNone_103 (by decide) ?_
                    refine lv_iload hx hb dL_isNone_105 (lv_at hl 8 rfl) ?_
                    refine lv_imul hx hb dL_isNone_107 ?_
                    refine lv_aload_n hx hb dL_isNone_108 rfl (lv_at hl 3 rfl) ?_
                    refine lv_iconst (v := 2) hx hb dL_isNone_109 (by decide) ?_
                    obtain ⟨hin, hf⟩ := xrs_f hf
                    refine x_rld hx hb hw hm2 hin dL_isNone_110 ?_
                    refine lv_topi (fun v13 ex => ?_)
                    replace hf := hf v13 ex
                    clear ex hin
                    refine lv_icmp_gt (tgt := 145) hx hb dL_isNone_111 (by decide) (fun c111 => ?_) (fun c111 => ?_)
                    · replace hf := xif_pos c111 hf
                      obtain ⟨v14, ex⟩ : ∃ y : Int32, y = (a6 + 1) := ⟨_, rfl⟩
                      replace hf := xl_f hf v14 ex
                      refine lv_iinc (v := v14) (lv' := [(6, .int v14), (8, .int v8), (7, .int v3), (0, .ref q1), (1, .ref q2), (2, .int a2), (3, .int a3), (4, .int a4), (5, .int a5)]) hx hb dL_isNone_145 hl (k := 8) rfl (by rw [ex]; rfl) (by decide) rfl (fun ls hl => ?_)
                      clear ex
                      refine lv_goto (tgt := 26) hx hb dL_isNone_148 (by decide) ?_
                      exact ih26 a2 a3 a4 a5 v14 σ _ _ _ nc ns hw (lv_sub hl [3, 4, 5, 6, 7, 8, 0] rfl) hf (by omega) (by omega)
                    · replace hf := xif_neg c111 hf
                      refine lv_bipush (v := 10) hx hb dL_isNone_114 (by decide) ?_
                      refine lv_iload hx hb dL_isNone_116 (lv_at hl 1 rfl) ?_
                      refine lv_imul hx hb dL_isNone_118 ?_
                      refine lv_aload_n hx hb dL_isNone_119 rfl (lv_at hl 3 rfl) ?_
                      refine lv_iconst (v := 3) hx hb dL_isNone_120 (by decide) ?_
                      obtain ⟨hin, hf⟩ := xrs_f hf
                      refine x_rld hx hb hw hm2 hin dL_isNone_121 ?_
                      refine lv_topi (fun v15 ex => ?_)
                      replace hf := hf v15 ex
                      clear ex hin
                      refine lv_icmp_gt (tgt := 145) hx hb dL_isNone_122 (by decide) (fun c122 => ?_) (fun c122 => ?_)
                      · replace hf := xif_pos c122 hf
                        obtain ⟨v16, ex⟩ : ∃ y : Int32, y = (a6 + 1) := ⟨_, rfl⟩
                        replace hf := xl_f hf v16 ex
                        refine lv_iinc (v := v16) (lv' := [(6, .int v16), (8, .int v8), (7, .int v3), (0, .ref q1), (1, .ref q2), (2, .int a2), (3, .int a3), (4, .int a4), (5, .int a5)]) hx hb dL_isNone_145 hl (k := 8) rfl (by rw [ex]; rfl) (by decide) rfl (fun ls hl => ?_)
                        clear ex
                        refine lv_goto (tgt := 26) hx hb dL_isNone_148 (by decide) ?_
                        exact ih26 a2 a3 a4 a5 v16 σ _ _ _ nc ns hw (lv_sub hl [3, 4, 5, 6, 7, 8, 0] rfl) hf (by omega) (by omega)
                      · replace hf := xif_neg c122 hf
                        refine lv_iload hx hb dL_isNone_125 (lv_at hl 0 rfl) ?_
                        refine lv_bipush (v := 10) hx hb dL_isNone_127 (by decide) ?_
                        refine lv_iload_n hx hb dL_isNone_129 rfl (lv_at hl 4 rfl) ?_
                        refine lv_imul hx hb dL_isNone_130 ?_
                        refine lv_icmp_lt (tgt := 145) hx hb dL_isNone_131 (by decide) (fun c131 => ?_) (fun c131 => ?_)
                        · replace hf := xif_pos c131 hf
                          obtain ⟨v17, ex⟩ : ∃ y : Int32, y = (a6 + 1) := ⟨_, rfl⟩
                          replace hf := xl_f hf v17 ex
                          refine lv_iinc (v := v17) (lv' := [(6, .int v17), (8, .int v8), (7, .int v3), (0, .ref q1), (1, .ref q2), (2, .int a2), (3, .int a3), (4, .int a4), (5, .int a5)]) hx hb dL_isNone_145 hl (k := 8) rfl (by rw [ex]; rfl) (by decide) rfl (fun ls hl => ?_)
                          clear ex
                          refine lv_goto (tgt := 26) hx hb dL_isNone_148 (by decide) ?_
                          exact ih26 a2 a3 a4 a5 v17 σ _ _ _ nc ns hw (lv_sub hl [3, 4, 5, 6, 7, 8, 0] rfl) hf (by omega) (by omega)
                        · replace hf := xif_neg c131 hf
                          refine lv_iload hx hb dL_isNone_134 (lv_at hl 0 rfl) ?_
                          refine lv_bipush (v := 10) hx hb dL_isNone_136 (by decide) ?_
                          refine lv_iload_n hx hb dL_isNone_138 rfl (lv_at hl 5 rfl) ?_
                          refine lv_imul hx hb dL_isNone_139 ?_
                          refine lv_icmp_gt (tgt := 145) hx hb dL_isNone_140 (by decide) (fun c140 => ?_) (fun c140 => ?_)
                          · replace hf := xif_pos c140 hf
                            obtain ⟨v18, ex⟩ : ∃ y : Int32, y = (a6 + 1) := ⟨_, rfl⟩
                            replace hf := xl_f hf v18 ex
                            refine lv_iinc (v := v18) (lv' := [(6, .int v18), (8, .int v8), (7, .int v3), (0, .ref q1), (1, .ref q2), (2, .int a2), (3, .int a3), (4, .int a4), (5, .int a5)]) hx hb dL_isNone_145 hl (k := 8) rfl (by rw [ex]; rfl) (by decide) rfl (fun ls hl => ?_)
                            clear ex
                            refine lv_goto (tgt := 26) hx hb dL_isNone_148 (by decide) ?_
                            exact ih26 a2 a3 a4 a5 v18 σ _ _ _ nc ns hw (lv_sub hl [3, 4, 5, 6, 7, 8, 0] rfl) hf (by omega) (by omega)
                          · replace hf := xif_neg c140 hf
                            refine lv_iconst (v := 0) hx hb dL_isNone_143 (by decide) ?_
                            exact x_Lzretc hx hb hr hlk hw (by decide) hf (show nc ≤ 0 by omega) (show ns ≤ 0 by omega) dL_isNone_144
          intro a2 a3 a4 a5 σ H locs ls nc ns hw hl hf hnc hns
          rw [fL_isNoneX_c13_s] at hf
          refine lv_iload hx hb dL_isNone_13 (lv_at hl 4 rfl) ?_
          refine lv_iload hx hb dL_isNone_15 (lv_at hl 5 rfl) ?_
          refine lv_iadd hx hb dL_isNone_17 ?_
          refine lv_bipush (v := 10) hx hb dL_isNone_18 (by decide) ?_
          refine lv_icmp_gt (tgt := 157) hx hb dL_isNone_20 (by decide) (fun c20 => ?_) (fun c20 => ?_)
          · replace hf := xif_pos c20 hf
            obtain ⟨v1, ex⟩ : ∃ y : Int32, y = (a4 + 1) := ⟨_, rfl⟩
            replace hf := xl_f hf v1 ex
            refine lv_iinc (v := v1) (lv' := [(4, .int v1), (0, .ref q1), (1, .ref q2), (2, .int a2), (3, .int a3), (5, .int a5)]) hx hb dL_isNone_157 hl (k := 4) rfl (by rw [ex]; rfl) (by decide) rfl (fun ls hl => ?_)
            clear ex
            refine lv_goto (tgt := 3) hx hb dL_isNone_160 (by decide) ?_
            exact ih3 a2 a3 v1 σ _ _ _ nc ns hw (lv_sub hl [1, 2, 3, 4, 0] rfl) hf (by omega) (by omega)
          · replace hf := xif_neg c20 hf
            refine lv_iconst (v := 0) hx hb dL_isNone_23 (by decide) ?_
            refine lv_istore (lv' := [(6, .int 0), (0, .ref q1), (1, .ref q2), (2, .int a2), (3, .int a3), (4, .int a4), (5, .int a5)]) hx hb dL_isNone_24 hl (by decide) rfl (fun ls hl => ?_)
            exact h26 xFU a2 a3 a4 a5 0 σ _ _ _ nc ns hw (lv_sub hl [1, 2, 3, 4, 5, 6, 0] rfl) hf (by omega) (by omega)
      intro a2 a3 a4 σ H locs ls nc ns hw hl hf hnc hns
      rw [fL_isNoneX_c3_s] at hf
      refine lv_iload hx hb dL_isNone_3 (lv_at hl 4 rfl) ?_
      refine lv_bipush (v := 10) hx hb dL_isNone_5 (by decide) ?_
      refine lv_icmp_gt (tgt := 163) hx hb dL_isNone_7 (by decide) (fun c7 => ?_) (fun c7 => ?_)
      · replace hf := xif_pos c7 hf
        refine lv_iconst (v := 1) hx hb dL_isNone_163 (by decide) ?_
        exact x_Lzretc hx hb hr hlk hw (by decide) hf (show nc ≤ 0 by omega) (show ns ≤ 0 by omega) dL_isNone_164
      · replace hf := xif_neg c7 hf
        refine lv_iconst (v := 0) hx hb dL_isNone_10 (by decide) ?_
        refine lv_istore (lv' := [(5, .int 0), (0, .ref q1), (1, .ref q2), (2, .int a2), (3, .int a3), (4, .int a4)]) hx hb dL_isNone_11 hl (by decide) rfl (fun ls hl => ?_)
        exact h13 xFU a2 a3 a4 0 σ _ _ _ nc ns hw (lv_sub hl [1, 2, 3, 4, 5, 0] rfl) hf (by omega) (by omega)
  refine lv_iconst (v := 0) hx hb dL_isNone_0 (by decide) ?_
  refine lv_istore (lv' := [(4, .int 0), (0, .ref q1), (1, .ref q2), (2, .int p2), (3, .int p3)]) hx hb dL_isNone_1 hl (by decide) rfl (fun ls hl => ?_)
  exact h3 xFU p2 p3 0 σ _ _ _ 0 0 hw (lv_sub hl [1, 2, 3, 4, 0] rfl) hf (by omega) (by omega)
