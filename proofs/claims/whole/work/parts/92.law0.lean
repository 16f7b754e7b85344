/-! ===== THE LAW'S CASES ===== -/
def xEX (D : va_G) (aX aM : Nat → Nat) (cA : ClassId) (g : Nat × Nat × (Nat → Nat)) (σM : xSt) : xE := (D, aX, cA, shX, xW aM cA shM σM [], g)
def xEM (D : va_G) (aX aM : Nat → Nat) (cA : ClassId) (g : Nat × Nat × (Nat → Nat)) (ao : Nat) (cL : ClassId) (σX : xSt) (fo : Nat → Int64) : xE := (D, aM, cA, shM, (ao, .inl (cL, 1, .inr (.inl fo))) :: xW aX cA shX σX [], g)
theorem x_perm_P {D : va_G} {cl : List vw_C} {H : Heap} {a b : va_W} (h : va_P D cl a H) (hm : ∀ q ∈ b, q ∈ a) : va_P D cl b H := fun k q hk => by
  obtain ⟨i, hi⟩ := List.getElem?_of_mem (hm q (List.mem_of_getElem? hk))
  exact h i q hi
theorem x_D_nodup {A : Nat → Prop} {a : va_W} (h : va_D A a) : (a.map Prod.fst).Nodup := by
  unfold List.Nodup
  rw [List.pairwise_iff_getElem]
  intro i j hi hj hij he
  rw [List.length_map] at hi hj
  rw [List.getElem_map, List.getElem_map] at he
  have := h.1 i j _ _ (List.getElem?_eq_getElem hi) (List.getElem?_eq_getElem hj) he
  omega
theorem x_perm_D {A : Nat → Prop} {a b : va_W} (h : va_D A a) (hp : a.Perm b) : va_D A b := by
  have hn : (b.map Prod.fst).Nodup := (hp.map Prod.fst).nodup_iff.mp (x_D_nodup h)
  refine ⟨fun i j p q hp1 hq1 hpq => ?_, fun k q hk => ?_⟩
  · have hi : i < (b.map Prod.fst).length := by rw [List.length_map]; exact (List.getElem?_eq_some_iff.mp hp1).1
    refine (List.getElem?_inj hi hn).mp ?_
    rw [List.getElem?_map, List.getElem?_map, hp1, hq1]
    show some p.1 = some q.1
    rw [hpq]
  · obtain ⟨i, hi⟩ := List.getElem?_of_mem (hp.mem_iff.mpr (List.mem_of_getElem? hk))
    exact h.2 i q hi
theorem x_swapW (l1 l2 : va_W) (x : Nat × va_E) : (l1 ++ x :: l2).Perm (l2 ++ x :: l1) := by
  exact List.perm_middle.trans ((List.Perm.cons x List.perm_append_comm).trans List.perm_middle.symm)
theorem xW_nil (a : Nat → Nat) (cA : ClassId) (sh : xSh) (σ : xSt) (ex : va_W) : xW a cA sh σ ex = xW a cA sh σ [] ++ ex := by unfold xW; rw [List.append_nil]
theorem xXM_perm (D : va_G) (aX aM : Nat → Nat) (cA : ClassId) (g : Nat × Nat × (Nat → Nat)) (ao : Nat) (cL : ClassId) (σX σM : xSt) (fo : Nat → Int64) : ((xEO (xEX D aX aM cA g σM) ao cL fo).W σX).Perm ((xEM D aX aM cA g ao cL σX fo).W σM) := by
  show (xW aX cA shX σX ((ao, .inl (cL, 1, .inr (.inl fo))) :: xW aM cA shM σM [])).Perm (xW aM cA shM σM ((ao, .inl (cL, 1, .inr (.inl fo))) :: xW aX cA shX σX []))
  rw [xW_nil aX cA shX σX (_ :: _), xW_nil aM cA shM σM (_ :: _)]
  exact x_swapW _ _ _
section XLW
variable {D : va_G} {aX aM : Nat → Nat} {cA : ClassId} {g : Nat × Nat × (Nat → Nat)} {ao : Nat} {cL : ClassId} {σX σM : xSt} {fo : Nat → Int64} {A : Nat → Prop} {H0 H : Heap} {t : State} {locs : List Loc}
theorem xwM (h : xwW (xEX D aX aM cA g σM) ao cL A H0 t σX fo H locs) : xw (xEM D aX aM cA g ao cL σX fo) A H0 t σM H locs :=
  ⟨h.1.sub [0] rfl, x_perm_P h.2.1 (fun q hq => (xXM_perm D aX aM cA g ao cL σX σM fo).mem_iff.mpr hq), x_perm_D h.2.2.1 (xXM_perm D aX aM cA g ao cL σX σM fo), h.2.2.2⟩
theorem xwX (hK : va_K D vwCl [(cA, .int), (cL, .long)] t) (h : xw (xEM D aX aM cA g ao cL σX fo) A H0 t σM H locs) : xwW (xEX D aX aM cA g σM) ao cL A H0 t σX fo H locs :=
  ⟨hK, x_perm_P h.2.1 (fun q hq => (xXM_perm D aX aM cA g ao cL σX σM fo).mem_iff.mp hq), x_perm_D h.2.2.1 (xXM_perm D aX aM cA g ao cL σX σM fo).symm, h.2.2.2⟩
end XLW
abbrev xLl (b x0 m0 ao : Nat) (i : Int32) : List (Nat × Value) := [(0, .ref b), (1, .ref x0), (2, .ref m0), (3, .ref ao), (4, .int i)]
/-- what stands still in the law's walk -/
def xLC (p : Program) (t : State) (m : MethodId) (args : Array Value) (c : Code) (b L n : Nat) (xs : Nat → Int32) (A : Nat → Prop) (g : Nat × Nat × (Nat → Nat)) : Prop :=
  p.tables.exec = Jvm.exec ∧ c.code = cL_law ∧ c.maxLocals = 9 ∧ t.vm.findClass RL = some m.cls ∧ (∀ w ∈ wsL_law, w.before args t = true) ∧ va_X b L xs t t.heap ∧ b < t.heap.size ∧ (6 * n + 6 ≤ L ∧ L ≤ 3072) ∧ (∀ q, t.heap.size ≤ q → A q) ∧ ¬ A b ∧ xG g A t t.heap ∧ xN t
theorem xcd_ne {k0 k1 k2 k3 : Int32} {k : Nat} (h0 : k0 ≠ 0) (h1 : k1 ≠ 0) (h2 : k2 ≠ 0) (h3 : k3 ≠ 0) : xcd k0 k1 k2 k3 (.inr k) ≠ 0 := by
  match k with
  | 0 => exact h0
  | 1 => exact h1
  | 2 => exact h2
  | _ + 3 => exact h3
theorem x_lidx {n k : Nat} (h : 6 * n + k < 3072) : (nI (6 * n) + (nI k)).toNatClampNeg = 6 * n + k := by rw [nI_add, nI_clamp (by omega)]
section XLR
variable {p : Program} {l : Launch} {e : Env} {R : Room} {t : State} {m : MethodId} {args : Array Value} {below : List Frame} {meth : Method} {c : Code} {H : Heap} {locs : List Loc} {cells slots : Nat} {Q : State → Prop}
variable {pc : Nat} {ls : Array Slot} {rest : List Value} {A : Nat → Prop} {b L n : Nat} {xs : Nat → Int32} {g : Nat × Nat × (Nat → Nat)} {E : xE} {ao : Nat} {cL : ClassId} {σ : xSt} {fo : Nat → Int64} {x0 m0 : Nat} {lv : List (Nat × Value)}
/-- script[i + k] -/
theorem x_arg (C : xLC p t m args c b L n xs A g) (hS : va_S A t.heap H locs) (h0 : ls[0]? = some (.val (.ref b))) (h4 : ls[4]? = some (.val (.int (nI (6 * n))))) {k : Nat} (hk : k < 6) {kv : Int32} (hkv : kv = nI k)
    (d0 : decode cL_law pc = .ok (.aload_n 0, 1)) (d1 : decode cL_law (pc + 1) = .ok (.iload 4, 2)) (d3 : ∀ {Q : State → Prop} {st : List Value}, W p l e R t m args below meth c H locs cells slots Q (F0 m (pc + 4) ls (.int kv :: st)) → W p l e R t m args below meth c H locs cells slots Q (F0 m (pc + 3) ls st)) (d4 : decode cL_law (pc + 4) = .ok (.iadd, 1)) (d5 : decode cL_law (pc + 5) = .ok (.iaload, 1))
    (kk : W p l e R t m args below meth c H locs cells slots Q (F0 m (pc + 6) ls (.int (xs (6 * n + k)) :: rest))) : W p l e R t m args below meth c H locs cells slots Q (F0 m pc ls rest) := by
  obtain ⟨hx, hb, hml, hown, hts, hX, hbl, hn, hA, hbA, hG, hN⟩ := C
  refine lv_aload_n hx hb d0 rfl h0 ?_
  refine lv_iload hx hb d1 h4 ?_
  refine d3 ?_
  refine lv_iadd hx hb d4 ?_
  subst hkv
  have e := x_lidx (n := n) (k := k) (by omega)
  have hin : vp_in (nI (6 * n) + nI k) L := by rw [nI_add]; exact vp_in_nI (by omega) (by omega)
  refine va_sld hx hb hX hbl hbA hS hin d5 ?_
  rw [e]
  exact kk
/-- out[0] -/
theorem x_wlald (hexec : p.tables.exec = Jvm.exec) (hb : c.code = cL_law) {H0 : Heap} (hw : xwW E ao cL A H0 t σ fo H locs) (hdg : decode cL_law pc = .ok (.laload, 1))
    (kk : W p l e R t m args below meth c H locs cells slots Q (F0 m (pc + 1) ls (.long (fo 0) :: rest))) : W p l e R t m args below meth c H locs cells slots Q (F0 m pc ls (.int 0 :: .ref ao :: rest)) :=
  va_lald hexec hb hw.1 hw.2.1 E.sh.length 1 (cA := cL) (n := 1) (f := fo) (xEO_at E ao cL fo σ) rfl (xin_vp (by decide)) hdg kk
theorem xPreW_blind {av : List Value} {sz : Nat} : FrameBlind (xPreW E ao cL av σ fo sz) := fun v U fr mk h => by
  obtain ⟨q0, q1, qP, qK, qD, qG, qN⟩ := h
  exact ⟨q0, q1, qP, va_K.moved (u := U) (U := U.calling fr mk v) (Vm.Alike.refl U.vm) qK, qD, xG.same (u := U) (U := U.calling fr mk v) rfl qG, xN.moved (u := U) (U := U.calling fr mk v) (Vm.Alike.refl U.vm) qN⟩
theorem x_preW (av : List Value) (hw : xwW E ao cL A t.heap t σ fo H locs) (hA : ∀ q, t.heap.size ≤ q → A q) (hG : xG E.g A t t.heap) (hN : xN t) : PreS t H (xPreW E ao cL av σ fo H.size) av :=
  ⟨xPreW_blind, fun U hU hW => by
    refine ⟨rfl, by rw [hU], by rw [hU]; exact hw.2.1, va_K.moved hW.alike hw.1, hw.2.2.1.weaken (fun _ _ _ _ => trivial), ?_, hN.moved hW.alike⟩
    rw [hU]
    exact xG.go hW (fun q h1 h2 => hw.2.2.2.2.1 q h1 h2) ((xwW.in hw).free hA) hG⟩
theorem x_wcalli {av : Array Value} {r0 : Int32} {σ1 : xSt} {fo1 : Nat → Int64} {st0 : List Value} {mc ms : Nat} {H0 : Heap} (hr : vx_Run p l e R t m args below meth c H locs cells slots mc ms (F0 m pc ls st0) rest (xQw E ao cL (va_A ((xEO E ao cL fo).W σ) H.size) r0 σ1 fo1 av) (xXw (va_A ((xEO E ao cL fo).W σ) H.size)) (va_A ((xEO E ao cL fo).W σ) H.size)) (hw : xwW E ao cL A H0 t σ fo H locs) (hA : ∀ q, H0.size ≤ q → A q)
    (kk : ∀ (H1 : Heap) (locs1 : List Loc), xwW E ao cL A H0 t σ1 fo1 H1 locs1 → W p l e R t m args below meth c H1 locs1 (cells + mc) (slots + ms) Q (F0 m (pc + 3) ls (.int r0 :: rest))) : W p l e R t m args below meth c H locs cells slots Q (F0 m pc ls st0) := by
  refine vx_calli hr hw.2.2.2 (fun q _ h => (xwW.in hw).free hA q h) ((xwW.in hw).free hA) (fun q _ h => (xwW.in hw).free hA q h) (fun E9 ce q9 u t' H1 locs1 ht hvm hpx hBX hz1 hk1 hS1 hce hcv hcl => hpx.elim) (fun r u t' H1 locs1 ht hvm hpost hB hz1 hk1 hS1 => ?_)
  obtain ⟨rfl, rfl⟩ := hpost
  obtain ⟨hP1, hK1, hD1⟩ := hB
  rw [ht] at hP1
  have hfst : ((xEO E ao cL fo).W σ).map Prod.fst = ((xEO E ao cL fo1).W σ1).map Prod.fst := by
    show (xW E.a E.cA E.sh σ ((ao, .inl (cL, 1, .inr (.inl fo))) :: E.ex)).map Prod.fst = (xW E.a E.cA E.sh σ1 ((ao, .inl (cL, 1, .inr (.inl fo1))) :: E.ex)).map Prod.fst
    rw [xW_fst _ _ _ σ σ1, xW_nil, xW_nil E.a E.cA E.sh σ1 (_ :: _), List.map_append, List.map_append]
    rfl
  exact kk H1 locs1 ⟨hw.1, hP1, xD_of hfst hw.2.2.1, hS1⟩
end XLR
set_option maxRecDepth 100000 in
set_option maxHeartbeats 4000000 in
theorem lawc_0 {p : Program} {l : Launch} {e : Env} {t : State} {m : MethodId} {args : Array Value} {below : List Frame} {meth : Method} {c : Code} {Q : State → Prop} {H : Heap} {locs : List Loc} {cells slots b L n : Nat} {xs : Nat → Int32} {A : Nat → Prop} {D : va_G} {aX aM : Nat → Nat} {cA cL : ClassId} {ao : Nat} {g : Nat × Nat × (Nat → Nat)} {σX σM : xSt} {fo : Nat → Int64} {ls : Array Slot} (hl0 : l.stackTraces = false) (Cx : xLC p t m args c b L n xs A g) (hw : xwW (xEX D aX aM cA g σM) ao cL A t.heap t σX fo H locs) (hl : lv_has ls 9 (xLl b (aX 0) (aM 0) ao (nI (6 * n)))) (hcs : cells + 20 ≤ 601024 ∧ slots + 120 ≤ 7293034) (o : xO) (b9 : Int32) (σX1 σM1 : xSt) (hfX : fX11_receive (xs (6 * n + 1)) (xs (6 * n + 2)) σX = some (o, σX1)) (hk : ∀ k, o = .inr k → k = 0 ∨ k = 1 ∨ k = 2) (hfM : fX12_receive (xs (6 * n + 1)) (xs (6 * n + 2)) σM = some (b9, σM1)) (hth : σM1 0 0 = xcd 1 2 3 9 o) (ha : ∀ v, o = .inl v → v = b9) (kk : ∀ (H : Heap) (locs : List Loc) (ls : Array Slot), xwW (xEX D aX aM cA g σM1) ao cL A t.heap t σX1 (xou fo o) H locs → lv_has ls 9 (xLl b (aX 0) (aM 0) ao (nI (6 * n))) → W p l e room_1 t m args below meth c H locs (cells + 20) (slots + 120) Q (F0 m 2908 ls [])) : W p l e room_1 t m args below meth c H locs cells slots Q (F0 m 248 ls []) := by
  obtain ⟨hx, hb, hml, hown, hts, hXs, hbl, hn, hA, hbA, hG, hN⟩ := id Cx
  refine lv_aload_n hx hb dL_law_248 rfl (lv_at hl 1 rfl) ?_
  refine x_arg Cx hw.2.2.2 (lv_at hl 0 rfl) (lv_at hl 4 rfl) (k := 1) (by decide) (kv := 1) (by decide) dL_law_249 dL_law_250 (fun h9 => lv_iconst (v := 1) hx hb dL_law_252 (by decide) h9) dL_law_253 dL_law_254 ?_
  refine x_arg Cx hw.2.2.2 (lv_at hl 0 rfl) (lv_at hl 4 rfl) (k := 2) (by decide) (kv := 2) (by decide) dL_law_255 dL_law_256 (fun h9 => lv_iconst (v := 2) hx hb dL_law_258 (by decide) h9) dL_law_259 dL_law_260 ?_
  refine lv_aload_n hx hb dL_law_261 rfl (lv_at hl 3 rfl) ?_
  refine x_wcalli (vx_runSX (hh := [(0, 10, 13, 13), (0, 10, 17, 15), (0, 10, 21, 17)]) (As := [.ref (aX 0), .int (xs (6 * n + 1)), .int (xs (6 * n + 2)), .ref ao]) (rest := []) ⟨hx, hb, hml, hown, hts⟩ (mL_receive hl0 (E := xEX D aX aM cA g σM) rfl ao cL (xs (6 * n + 1)) (xs (6 * n + 2)) σX fo o σX1 hfX hk H.size) (vx_cwSW 4 hts gL_law_L_receive rfl rfl rfl (by decide +kernel) ⟨Nat.le_of_ble_eq_true rfl, Nat.le_of_ble_eq_true rfl⟩) (x_preW _ hw hA hG hN) rfl rfl hl.1 rfl (lv_room (Nat.le_of_ble_eq_true rfl)) dL_law_262 ⟨by show cells + 3 ≤ 601024; omega, by show slots + 18 ≤ 7293034; omega⟩) hw hA (fun H locs hw => ?_)
  refine lv_istore (lv' := [(5, .int (xcd 1 2 3 9 o)), (0, .ref b), (1, .ref (aX 0)), (2, .ref (aM 0)), (3, .ref ao), (4, .int (nI (6 * n)))]) hx hb dL_law_265 hl (by decide) rfl (fun ls hl => ?_)
  refine lv_aload_n hx hb dL_law_267 rfl (lv_at hl 3 rfl) ?_
  refine x_arg Cx hw.2.2.2 (lv_at hl 1 rfl) (lv_at hl 5 rfl) (k := 1) (by decide) (kv := 1) (by decide) dL_law_268 dL_law_269 (fun h9 => lv_iconst (v := 1) hx hb dL_law_271 (by decide) h9) dL_law_272 dL_law_273 ?_
  refine x_arg Cx hw.2.2.2 (lv_at hl 1 rfl) (lv_at hl 5 rfl) (k := 2) (by decide) (kv := 2) (by decide) dL_law_274 dL_law_275 (fun h9 => lv_iconst (v := 2) hx hb dL_law_277 (by decide) h9) dL_law_278 dL_law_279 ?_
  have hwm := xwM hw
  refine x_calli (va_runV (As := [.int (xs (6 * n + 1)), .int (xs (6 * n + 2))]) (rest := []) ⟨hx, hb, hml, hown, hts⟩ (mX12_receive (E := xEM D aX aM cA g ao cL σX1 (xou fo o)) rfl (xs (6 * n + 1)) (xs (6 * n + 2)) σM b9 σM1 hfM H.size) (cwV 2 hts gL_law_X12_receive rfl rfl rfl (by decide +kernel) ⟨Nat.le_of_ble_eq_true rfl, Nat.le_of_ble_eq_true rfl⟩) (x_preV _ hwm hA hG (cM0 rfl) rfl) rfl rfl hl.1 rfl (lv_room (Nat.le_of_ble_eq_true rfl)) dL_law_280 ⟨by show cells + 3 + 0 ≤ 601024; omega, by show slots + 18 + 0 ≤ 7293034; omega⟩) hwm hA (fun H locs hwm => ?_)
  have hw := xwX hw.1 hwm
  refine lv_istore (lv' := [(6, .int b9), (5, .int (xcd 1 2 3 9 o)), (0, .ref b), (1, .ref (aX 0)), (2, .ref (aM 0)), (3, .ref ao), (4, .int (nI (6 * n)))]) hx hb dL_law_283 hl (by decide) rfl (fun ls hl => ?_)
  refine lv_aload_n hx hb dL_law_285 rfl (lv_at hl 4 rfl) ?_
  have hwm := xwM hw
  refine x_calli (va_runV (As := []) (rest := []) ⟨hx, hb, hml, hown, hts⟩ (mX12_thrown (E := xEM D aX aM cA g ao cL σX1 (xou fo o)) rfl σM1 (σM1 0 0) σM1 (show fX12_thrown σM1 = some (σM1 0 0, σM1) from rfl) H.size) (cwV 0 hts gL_law_X12_thrown rfl rfl rfl (by decide +kernel) ⟨Nat.le_of_ble_eq_true rfl, Nat.le_of_ble_eq_true rfl⟩) (x_preV _ hwm hA hG (cM0 rfl) rfl) rfl rfl hl.1 rfl (lv_room (Nat.le_of_ble_eq_true rfl)) dL_law_286 ⟨by show cells + 3 + 0 ≤ 601024; omega, by show slots + 18 + 0 ≤ 7293034; omega⟩) hwm hA (fun H locs hwm => ?_)
  have hw := xwX hw.1 hwm
  refine lv_iload hx hb dL_law_289 (lv_at hl 1 rfl) ?_
  refine lv_icmp_eq (tgt := 296) hx hb dL_law_291 (by decide) (fun _ => ?_) (fun h9 => absurd hth h9)
  refine lv_iload hx hb dL_law_296 (lv_at hl 1 rfl) ?_
  cases o with
  | inl v =>
    · refine lv_if_ne (tgt := 313) hx hb dL_law_298 (by decide) (fun h9 => absurd rfl h9) (fun _ => ?_)
      refine lv_aload_n hx hb dL_law_301 rfl (lv_at hl 5 rfl) ?_
      refine lv_iconst (v := 0) hx hb dL_law_302 (by decide) ?_
      refine x_wlald hx hb hw dL_law_303 ?_
      refine lv_iload hx hb dL_law_304 (lv_at hl 0 rfl) ?_
      refine lv_i2l hx hb dL_law_306 rfl ?_
      refine W.lcmp hx hb dL_law_307 ?_
      refine lv_if_eq (tgt := 313) hx hb dL_law_308 (by decide) (fun _ => ?_) (fun h9 => absurd ((lg_cmp_eq _ _).mpr (by rw [ha v rfl]; rfl)) h9)
      refine lv_goto (tgt := 2908) hx hb dL_law_313 (by decide) ?_
      refine W.widen (k := cells + 20) (n := slots + 120) (by omega) (by omega) ?_
      exact kk _ _ _ hw (lv_sub hl [2, 3, 4, 5, 6] rfl)
  | inr k =>
    · refine lv_if_ne (tgt := 313) hx hb dL_law_298 (by decide) (fun _ => ?_) (fun h9 => absurd h9 (xcd_ne (by decide) (by decide) (by decide) (by decide)))
      refine lv_goto (tgt := 2908) hx hb dL_law_313 (by decide) ?_
      refine W.widen (k := cells + 20) (n := slots + 120) (by omega) (by omega) ?_
      exact kk _ _ _ hw (lv_sub hl [2, 3, 4, 5, 6] rfl)

set_option maxRecDepth 100000 in
set_option maxHeartbeats 4000000 in
theorem lawc_1 {p : Program} {l : Launch} {e : Env} {t : State} {m : MethodId} {args : Array Value} {below : List Frame} {meth : Method} {c : Code} {Q : State → Prop} {H : Heap} {locs : List Loc} {cells slots b L n : Nat} {xs : Nat → Int32} {A : Nat → Prop} {D : va_G} {aX aM : Nat → Nat} {cA cL : ClassId} {ao : Nat} {g : Nat × Nat × (Nat → Nat)} {σX σM : xSt} {fo : Nat → Int64} {ls : Array Slot} (hl0 : l.stackTraces = false) (Cx : xLC p t m args c b L n xs A g) (hw : xwW (xEX D aX aM cA g σM) ao cL A t.heap t σX fo H locs) (hl : lv_has ls 9 (xLl b (aX 0) (aM 0) ao (nI (6 * n)))) (hcs : cells + 20 ≤ 601024 ∧ slots + 120 ≤ 7293034) (o : xO) (b9 : Int32) (σX1 σM1 : xSt) (hfX : fX11_store (xs (6 * n + 1)) σX = some (o, σX1)) (hk : ∀ k, o = .inr k → k = 0) (hfM : fX12_store (xs (6 * n + 1)) σM = some (b9, σM1)) (hth : σM1 0 0 = xcd 1 9 9 9 o) (ha : ∀ v, o = .inl v → v = b9) (kk : ∀ (H : Heap) (locs : List Loc) (ls : Array Slot), xwW (xEX D aX aM cA g σM1) ao cL A t.heap t σX1 (xou fo o) H locs → lv_has ls 9 (xLl b (aX 0) (aM 0) ao (nI (6 * n))) → W p l e room_1 t m args below meth c H locs (cells + 20) (slots + 120) Q (F0 m 2908 ls [])) : W p l e room_1 t m args below meth c H locs cells slots Q (F0 m 316 ls []) := by
  obtain ⟨hx, hb, hml, hown, hts, hXs, hbl, hn, hA, hbA, hG, hN⟩ := id Cx
  refine lv_aload_n hx hb dL_law_316 rfl (lv_at hl 1 rfl) ?_
  refine x_arg Cx hw.2.2.2 (lv_at hl 0 rfl) (lv_at hl 4 rfl) (k := 1) (by decide) (kv := 1) (by decide) dL_law_317 dL_law_318 (fun h9 => lv_iconst (v := 1) hx hb dL_law_320 (by decide) h9) dL_law_321 dL_law_322 ?_
  refine lv_aload_n hx hb dL_law_323 rfl (lv_at hl 3 rfl) ?_
  refine x_wcalli (vx_runSX (hh := [(0, 9, 12, 13)]) (As := [.ref (aX 0), .int (xs (6 * n + 1)), .ref ao]) (rest := []) ⟨hx, hb, hml, hown, hts⟩ (mL_store hl0 (E := xEX D aX aM cA g σM) rfl ao cL (xs (6 * n + 1)) σX fo o σX1 hfX hk H.size) (vx_cwSW 3 hts gL_law_L_store rfl rfl rfl (by decide +kernel) ⟨Nat.le_of_ble_eq_true rfl, Nat.le_of_ble_eq_true rfl⟩) (x_preW _ hw hA hG hN) rfl rfl hl.1 rfl (lv_room (Nat.le_of_ble_eq_true rfl)) dL_law_324 ⟨by show cells + 1 ≤ 601024; omega, by show slots + 6 ≤ 7293034; omega⟩) hw hA (fun H locs hw => ?_)
  refine lv_istore (lv' := [(5, .int (xcd 1 9 9 9 o)), (0, .ref b), (1, .ref (aX 0)), (2, .ref (aM 0)), (3, .ref ao), (4, .int (nI (6 * n)))]) hx hb dL_law_327 hl (by decide) rfl (fun ls hl => ?_)
  refine lv_aload_n hx hb dL_law_329 rfl (lv_at hl 3 rfl) ?_
  refine x_arg Cx hw.2.2.2 (lv_at hl 1 rfl) (lv_at hl 5 rfl) (k := 1) (by decide) (kv := 1) (by decide) dL_law_330 dL_law_331 (fun h9 => lv_iconst (v := 1) hx hb dL_law_333 (by decide) h9) dL_law_334 dL_law_335 ?_
  have hwm := xwM hw
  refine x_calli (va_runV (As := [.int (xs (6 * n + 1))]) (rest := []) ⟨hx, hb, hml, hown, hts⟩ (mX12_store (E := xEM D aX aM cA g ao cL σX1 (xou fo o)) rfl (xs (6 * n + 1)) σM b9 σM1 hfM H.size) (cwV 1 hts gL_law_X12_store rfl rfl rfl (by decide +kernel) ⟨Nat.le_of_ble_eq_true rfl, Nat.le_of_ble_eq_true rfl⟩) (x_preV _ hwm hA hG (cM0 rfl) rfl) rfl rfl hl.1 rfl (lv_room (Nat.le_of_ble_eq_true rfl)) dL_law_336 ⟨by show cells + 1 + 0 ≤ 601024; omega, by show slots + 6 + 0 ≤ 7293034; omega⟩) hwm hA (fun H locs hwm => ?_)
  have hw := xwX hw.1 hwm
  refine lv_istore (lv' := [(6, .int b9), (5, .int (xcd 1 9 9 9 o)), (0, .ref b), (1, .ref (aX 0)), (2, .ref (aM 0)), (3, .ref ao), (4, .int (nI (6 * n)))]) hx hb dL_law_339 hl (by decide) rfl (fun ls hl => ?_)
  refine lv_aload_n hx hb dL_law_341 rfl (lv_at hl 4 rfl) ?_
  have hwm := xwM hw
  refine x_calli (va_runV (As := []) (rest := []) ⟨hx, hb, hml, hown, hts⟩ (mX12_thrown (E := xEM D aX aM cA g ao cL σX1 (xou fo o)) rfl σM1 (σM1 0 0) σM1 (show fX12_thrown σM1 = some (σM1 0 0, σM1) from rfl) H.size) (cwV 0 hts gL_law_X12_thrown rfl rfl rfl (by decide +kernel) ⟨Nat.le_of_ble_eq_true rfl, Nat.le_of_ble_eq_true rfl⟩) (x_preV _ hwm hA hG (cM0 rfl) rfl) rfl rfl hl.1 rfl (lv_room (Nat.le_of_ble_eq_true rfl)) dL_law_342 ⟨by show cells + 1 + 0 ≤ 601024; omega, by show slots + 6 + 0 ≤ 7293034; omega⟩) hwm hA (fun H locs hwm => ?_)
  have hw := xwX hw.1 hwm
  refine lv_iload hx hb dL_law_345 (lv_at hl 1 rfl) ?_
  refine lv_icmp_eq (tgt := 352) hx hb dL_law_347 (by decide) (fun _ => ?_) (fun h9 => absurd hth h9)
  refine lv_iload hx hb dL_law_352 (lv_at hl 1 rfl) ?_
  cases o with
  | inl v =>
    · refine lv_if_ne (tgt := 369) hx hb dL_law_354 (by decide) (fun h9 => absurd rfl h9) (fun _ => ?_)
      refine lv_aload_n hx hb dL_law_357 rfl (lv_at hl 5 rfl) ?_
      refine lv_iconst (v := 0) hx hb dL_law_358 (by decide) ?_
      refine x_wlald hx hb hw dL_law_359 ?_
      refine lv_iload hx hb dL_law_360 (lv_at hl 0 rfl) ?_
      refine lv_i2l hx hb dL_law_362 rfl ?_
      refine W.lcmp hx hb dL_law_363 ?_
      refine lv_if_eq (tgt := 369) hx hb dL_law_364 (by decide) (fun _ => ?_) (fun h9 => absurd ((lg_cmp_eq _ _).mpr (by rw [ha v rfl]; rfl)) h9)
      refine lv_goto (tgt := 2908) hx hb dL_law_369 (by decide) ?_
      refine W.widen (k := cells + 20) (n := slots + 120) (by omega) (by omega) ?_
      exact kk _ _ _ hw (lv_sub hl [2, 3, 4, 5, 6] rfl)
  | inr k =>
    · refine lv_if_ne (tgt := 369) hx hb dL_law_354 (by decide) (fun _ => ?_) (fun h9 => absurd h9 (xcd_ne (by decide) (by decide) (by decide) (by decide)))
      refine lv_goto (tgt := 2908) hx hb dL_law_369 (by decide) ?_
      refine W.widen (k := cells + 20) (n := slots + 120) (by omega) (by omega) ?_
      exact kk _ _ _ hw (lv_sub hl [2, 3, 4, 5, 6] rfl)

set_option maxRecDepth 100000 in
set_option maxHeartbeats 4000000 in
theorem lawc_2 {p : Program} {l : Launch} {e : Env} {t : State} {m : MethodId} {args : Array Value} {below : List Frame} {meth : Method} {c : Code} {Q : State → Prop} {H : Heap} {locs : List Loc} {cells slots b L n : Nat} {xs : Nat → Int32} {A : Nat → Prop} {D : va_G} {aX aM : Nat → Nat} {cA cL : ClassId} {ao : Nat} {g : Nat × Nat × (Nat → Nat)} {σX σM : xSt} {fo : Nat → Int64} {ls : Array Slot} (hl0 : l.stackTraces = false) (Cx : xLC p t m args c b L n xs A g) (hw : xwW (xEX D aX aM cA g σM) ao cL A t.heap t σX fo H locs) (hl : lv_has ls 9 (xLl b (aX 0) (aM 0) ao (nI (6 * n)))) (hcs : cells + 20 ≤ 601024 ∧ slots + 120 ≤ 7293034) (o : xO) (b9 : Int32) (σX1 σM1 : xSt) (hfX : fX11_addRecipe (xs (6 * n + 1)) (xs (6 * n + 2)) (xs (6 * n + 3)) (xs (6 * n + 4)) (xs (6 * n + 5)) σX = some (o, σX1)) (hk : ∀ k, o = .inr k → k = 1 ∨ k = 2) (hfM : fX12_addRecipe (xs (6 * n + 1)) (xs (6 * n + 2)) (xs (6 * n + 3)) (xs (6 * n + 4)) (xs (6 * n + 5)) σM = some (b9, σM1)) (hth : σM1 0 0 = xcd 9 1 2 9 o) (ha : ∀ v, o = .inl v → v = b9) (kk : ∀ (H : Heap) (locs : List Loc) (ls : Array Slot), xwW (xEX D aX aM cA g σM1) ao cL A t.heap t σX1 (xou fo o) H locs → lv_has ls 9 (xLl b (aX 0) (aM 0) ao (nI (6 * n))) → W p l e room_1 t m args below meth c H locs (cells + 20) (slots + 120) Q (F0 m 2908 ls [])) : W p l e room_1 t m args below meth c H locs cells slots Q (F0 m 372 ls []) := by
  obtain ⟨hx, hb, hml, hown, hts, hXs, hbl, hn, hA, hbA, hG, hN⟩ := id Cx
  refine lv_aload_n hx hb dL_law_372 rfl (lv_at hl 1 rfl) ?_
  refine x_arg Cx hw.2.2.2 (lv_at hl 0 rfl) (lv_at hl 4 rfl) (k := 1) (by decide) (kv := 1) (by decide) dL_law_373 dL_law_374 (fun h9 => lv_iconst (v := 1) hx hb dL_law_376 (by decide) h9) dL_law_377 dL_law_378 ?_
  refine x_arg Cx hw.2.2.2 (lv_at hl 0 rfl) (lv_at hl 4 rfl) (k := 2) (by decide) (kv := 2) (by decide) dL_law_379 dL_law_380 (fun h9 => lv_iconst (v := 2) hx hb dL_law_382 (by decide) h9) dL_law_383 dL_law_384 ?_
  refine x_arg Cx hw.2.2.2 (lv_at hl 0 rfl) (lv_at hl 4 rfl) (k := 3) (by decide) (kv := 3) (by decide) dL_law_385 dL_law_386 (fun h9 => lv_iconst (v := 3) hx hb dL_law_388 (by decide) h9) dL_law_389 dL_law_390 ?_
  refine x_arg Cx hw.2.2.2 (lv_at hl 0 rfl) (lv_at hl 4 rfl) (k := 4) (by decide) (kv := 4) (by decide) dL_law_391 dL_law_392 (fun h9 => lv_iconst (v := 4) hx hb dL_law_394 (by decide) h9) dL_law_395 dL_law_396 ?_
  refine x_arg Cx hw.2.2.2 (lv_at hl 0 rfl) (lv_at hl 4 rfl) (k := 5) (by decide) (kv := 5) (by decide) dL_law_397 dL_law_398 (fun h9 => lv_iconst (v := 5) hx hb dL_law_400 (by decide) h9) dL_law_401 dL_law_402 ?_
  refine lv_aload_n hx hb dL_law_403 rfl (lv_at hl 3 rfl) ?_
  refine x_wcalli (vx_runSX (hh := [(0, 16, 19, 15), (0, 16, 23, 17)]) (As := [.ref (aX 0), .int (xs (6 * n + 1)), .int (xs (6 * n + 2)), .int (xs (6 * n + 3)), .int (xs (6 * n + 4)), .int (xs (6 * n + 5)), .ref ao]) (rest := []) ⟨hx, hb, hml, hown, hts⟩ (mL_addRecipe hl0 (E := xEX D aX aM cA g σM) rfl ao cL (xs (6 * n + 1)) (xs (6 * n + 2)) (xs (6 * n + 3)) (xs (6 * n + 4)) (xs (6 * n + 5)) σX fo o σX1 hfX hk H.size) (vx_cwSW 7 hts gL_law_L_addRecipe rfl rfl rfl (by decide +kernel) ⟨Nat.le_of_ble_eq_true rfl, Nat.le_of_ble_eq_true rfl⟩) (x_preW _ hw hA hG hN) rfl rfl hl.1 rfl (lv_room (Nat.le_of_ble_eq_true rfl)) dL_law_404 ⟨by show cells + 2 ≤ 601024; omega, by show slots + 12 ≤ 7293034; omega⟩) hw hA (fun H locs hw => ?_)
  refine lv_istore (lv' := [(5, .int (xcd 9 1 2 9 o)), (0, .ref b), (1, .ref (aX 0)), (2, .ref (aM 0)), (3, .ref ao), (4, .int (nI (6 * n)))]) hx hb dL_law_407 hl (by decide) rfl (fun ls hl => ?_)
  refine lv_aload_n hx hb dL_law_409 rfl (lv_at hl 3 rfl) ?_
  refine x_arg Cx hw.2.2.2 (lv_at hl 1 rfl) (lv_at hl 5 rfl) (k := 1) (by decide) (kv := 1) (by decide) dL_law_410 dL_law_411 (fun h9 => lv_iconst (v := 1) hx hb dL_law_413 (by decide) h9) dL_law_414 dL_law_415 ?_
  refine x_arg Cx hw.2.2.2 (lv_at hl 1 rfl) (lv_at hl 5 rfl) (k := 2) (by decide) (kv := 2) (by decide) dL_law_416 dL_law_417 (fun h9 => lv_iconst (v := 2) hx hb dL_law_419 (by decide) h9) dL_law_420 dL_law_421 ?_
  refine x_arg Cx hw.2.2.2 (lv_at hl 1 rfl) (lv_at hl 5 rfl) (k := 3) (by decide) (kv := 3) (by decide) dL_law_422 dL_law_423 (fun h9 => lv_iconst (v := 3) hx hb dL_law_425 (by decide) h9) dL_law_426 dL_law_427 ?_
  refine x_arg Cx hw.2.2.2 (lv_at hl 1 rfl) (lv_at hl 5 rfl) (k := 4) (by decide) (kv := 4) (by decide) dL_law_428 dL_law_429 (fun h9 => lv_iconst (v := 4) hx hb dL_law_431 (by decide) h9) dL_law_432 dL_law_433 ?_
  refine x_arg Cx hw.2.2.2 (lv_at hl 1 rfl) (lv_at hl 5 rfl) (k := 5) (by decide) (kv := 5) (by decide) dL_law_434 dL_law_435 (fun h9 => lv_iconst (v := 5) hx hb dL_law_437 (by decide) h9) dL_law_438 dL_law_439 ?_
  have hwm := xwM hw
  refine x_calli (va_runV (As := [.int (xs (6 * n + 1)), .int (xs (6 * n + 2)), .int (xs (6 * n + 3)), .int (xs (6 * n + 4)), .int (xs (6 * n + 5))]) (rest := []) ⟨hx, hb, hml, hown, hts⟩ (mX12_addRecipe (E := xEM D aX aM cA g ao cL σX1 (xou fo o)) rfl (xs (6 * n + 1)) (xs (6 * n + 2)) (xs (6 * n + 3)) (xs (6 * n + 4)) (xs (6 * n + 5)) σM b9 σM1 hfM H.size) (cwV 5 hts gL_law_X12_addRecipe rfl rfl rfl (by decide +kernel) ⟨Nat.le_of_ble_eq_true rfl, Nat.le_of_ble_eq_true rfl⟩) (x_preV _ hwm hA hG (cM0 rfl) rfl) rfl rfl hl.1 rfl (lv_room (Nat.le_of_ble_eq_true rfl)) dL_law_440 ⟨by show cells + 2 + 0 ≤ 601024; omega, by show slots + 12 + 0 ≤ 7293034; omega⟩) hwm hA (fun H locs hwm => ?_)
  have hw := xwX hw.1 hwm
  refine lv_istore (lv' := [(6, .int b9), (5, .int (xcd 9 1 2 9 o)), (0, .ref b), (1, .ref (aX 0)), (2, .ref (aM 0)), (3, .ref ao), (4, .int (nI (6 * n)))]) hx hb dL_law_443 hl (by decide) rfl (fun ls hl => ?_)
  refine lv_aload_n hx hb dL_law_445 rfl (lv_at hl 4 rfl) ?_
  have hwm := xwM hw
  refine x_calli (va_runV (As := []) (rest := []) ⟨hx, hb, hml, hown, hts⟩ (mX12_thrown (E := xEM D aX aM cA g ao cL σX1 (xou fo o)) rfl σM1 (σM1 0 0) σM1 (show fX12_thrown σM1 = some (σM1 0 0, σM1) from rfl) H.size) (cwV 0 hts gL_law_X12_thrown rfl rfl rfl (by decide +kernel) ⟨Nat.le_of_ble_eq_true rfl, Nat.le_of_ble_eq_true rfl⟩) (x_preV _ hwm hA hG (cM0 rfl) rfl) rfl rfl hl.1 rfl (lv_room (Nat.le_of_ble_eq_true rfl)) dL_law_446 ⟨by show cells + 2 + 0 ≤ 601024; omega, by show slots + 12 + 0 ≤ 7293034; omega⟩) hwm hA (fun H locs hwm => ?_)
  have hw := xwX hw.1 hwm
  refine lv_iload hx hb dL_law_449 (lv_at hl 1 rfl) ?_
  refine lv_icmp_eq (tgt := 456) hx hb dL_law_451 (by decide) (fun _ => ?_) (fun h9 => absurd hth h9)
  refine lv_iload hx hb dL_law_456 (lv_at hl 1 rfl) ?_
  cases o with
  | inl v =>
    · refine lv_if_ne (tgt := 473) hx hb dL_law_458 (by decide) (fun h9 => absurd rfl h9) (fun _ => ?_)
      refine lv_aload_n hx hb dL_law_461 rfl (lv_at hl 5 rfl) ?_
      refine lv_iconst (v := 0) hx hb dL_law_462 (by decide) ?_
      refine x_wlald hx hb hw dL_law_463 ?_
      refine lv_iload hx hb dL_law_464 (lv_at hl 0 rfl) ?_
      refine lv_i2l hx hb dL_law_466 rfl ?_
      refine W.lcmp hx hb dL_law_467 ?_
      refine lv_if_eq (tgt := 473) hx hb dL_law_468 (by decide) (fun _ => ?_) (fun h9 => absurd ((lg_cmp_eq _ _).mpr (by rw [ha v rfl]; rfl)) h9)
      refine lv_goto (tgt := 2908) hx hb dL_law_473 (by decide) ?_
      refine W.widen (k := cells + 20) (n := slots + 120) (by omega) (by omega) ?_
      exact kk _ _ _ hw (lv_sub hl [2, 3, 4, 5, 6] rfl)
  | inr k =>
    · refine lv_if_ne (tgt := 473) hx hb dL_law_458 (by decide) (fun _ => ?_) (fun h9 => absurd h9 (xcd_ne (by decide) (by decide) (by decide) (by decide)))
      refine lv_goto (tgt := 2908) hx hb dL_law_473 (by decide) ?_
      refine W.widen (k := cells + 20) (n := slots + 120) (by omega) (by omega) ?_
      exact kk _ _ _ hw (lv_sub hl [2, 3, 4, 5, 6] rfl)

set_option maxRecDepth 100000 in
set_option maxHeartbeats 4000000 in
theorem lawc_3 {p : Program} {l : Launch} {e : Env} {t : State} {m : MethodId} {args : Array Value} {below : List Frame} {meth : Method} {c : Code} {Q : State → Prop} {H : Heap} {locs : List Loc} {cells slots b L n : Nat} {xs : Nat → Int32} {A : Nat → Prop} {D : va_G} {aX aM : Nat → Nat} {cA cL : ClassId} {ao : Nat} {g : Nat × Nat × (Nat → Nat)} {σX σM : xSt} {fo : Nat → Int64} {ls : Array Slot} (hl0 : l.stackTraces = false) (Cx : xLC p t m args c b L n xs A g) (hw : xwW (xEX D aX aM cA g σM) ao cL A t.heap t σX fo H locs) (hl : lv_has ls 9 (xLl b (aX 0) (aM 0) ao (nI (6 * n)))) (hcs : cells + 20 ≤ 601024 ∧ slots + 120 ≤ 7293034) (o : xO) (b9 : Int32) (σX1 σM1 : xSt) (hfX : fX11_setWait (xs (6 * n + 1)) (xs (6 * n + 2)) σX = some (o, σX1)) (hk : ∀ k, o = .inr k → k = 0 ∨ k = 1) (hfM : fX12_setWait (xs (6 * n + 1)) (xs (6 * n + 2)) σM = some (b9, σM1)) (hth : σM1 0 0 = xcd 1 2 9 9 o) (ha : ∀ v, o = .inl v → v = b9) (kk : ∀ (H : Heap) (locs : List Loc) (ls : Array Slot), xwW (xEX D aX aM cA g σM1) ao cL A t.heap t σX1 (xou fo o) H locs → lv_has ls 9 (xLl b (aX 0) (aM 0) ao (nI (6 * n))) → W p l e room_1 t m args below meth c H locs (cells + 20) (slots + 120) Q (F0 m 2908 ls [])) : W p l e room_1 t m args below meth c H locs cells slots Q (F0 m 476 ls []) := by
  obtain ⟨hx, hb, hml, hown, hts, hXs, hbl, hn, hA, hbA, hG, hN⟩ := id Cx
  refine lv_aload_n hx hb dL_law_476 rfl (lv_at hl 1 rfl) ?_
  refine x_arg Cx hw.2.2.2 (lv_at hl 0 rfl) (lv_at hl 4 rfl) (k := 1) (by decide) (kv := 1) (by decide) dL_law_477 dL_law_478 (fun h9 => lv_iconst (v := 1) hx hb dL_law_480 (by decide) h9) dL_law_481 dL_law_482 ?_
  refine x_arg Cx hw.2.2.2 (lv_at hl 0 rfl) (lv_at hl 4 rfl) (k := 2) (by decide) (kv := 2) (by decide) dL_law_483 dL_law_484 (fun h9 => lv_iconst (v := 2) hx hb dL_law_486 (by decide) h9) dL_law_487 dL_law_488 ?_
  refine lv_aload_n hx hb dL_law_489 rfl (lv_at hl 3 rfl) ?_
  refine x_wcalli (vx_runSX (hh := [(0, 10, 13, 13), (0, 10, 17, 15)]) (As := [.ref (aX 0), .int (xs (6 * n + 1)), .int (xs (6 * n + 2)), .ref ao]) (rest := []) ⟨hx, hb, hml, hown, hts⟩ (mL_setWait hl0 (E := xEX D aX aM cA g σM) rfl ao cL (xs (6 * n + 1)) (xs (6 * n + 2)) σX fo o σX1 hfX hk H.size) (vx_cwSW 4 hts gL_law_L_setWait rfl rfl rfl (by decide +kernel) ⟨Nat.le_of_ble_eq_true rfl, Nat.le_of_ble_eq_true rfl⟩) (x_preW _ hw hA hG hN) rfl rfl hl.1 rfl (lv_room (Nat.le_of_ble_eq_true rfl)) dL_law_490 ⟨by show cells + 2 ≤ 601024; omega, by show slots + 12 ≤ 7293034; omega⟩) hw hA (fun H locs hw => ?_)
  refine lv_istore (lv' := [(5, .int (xcd 1 2 9 9 o)), (0, .ref b), (1, .ref (aX 0)), (2, .ref (aM 0)), (3, .ref ao), (4, .int (nI (6 * n)))]) hx hb dL_law_493 hl (by decide) rfl (fun ls hl => ?_)
  refine lv_aload_n hx hb dL_law_495 rfl (lv_at hl 3 rfl) ?_
  refine x_arg Cx hw.2.2.2 (lv_at hl 1 rfl) (lv_at hl 5 rfl) (k := 1) (by decide) (kv := 1) (by decide) dL_law_496 dL_law_497 (fun h9 => lv_iconst (v := 1) hx hb dL_law_499 (by decide) h9) dL_law_500 dL_law_501 ?_
  refine x_arg Cx hw.2.2.2 (lv_at hl 1 rfl) (lv_at hl 5 rfl) (k := 2) (by decide) (kv := 2) (by decide) dL_law_502 dL_law_503 (fun h9 => lv_iconst (v := 2) hx hb dL_law_505 (by decide) h9) dL_law_506 dL_law_507 ?_
  have hwm := xwM hw
  refine x_calli (va_runV (As := [.int (xs (6 * n + 1)), .int (xs (6 * n + 2))]) (rest := []) ⟨hx, hb, hml, hown, hts⟩ (mX12_setWait (E := xEM D aX aM cA g ao cL σX1 (xou fo o)) rfl (xs (6 * n + 1)) (xs (6 * n + 2)) σM b9 σM1 hfM H.size) (cwV 2 hts gL_law_X12_setWait rfl rfl rfl (by decide +kernel) ⟨Nat.le_of_ble_eq_true rfl, Nat.le_of_ble_eq_true rfl⟩) (x_preV _ hwm hA hG (cM0 rfl) rfl) rfl rfl hl.1 rfl (lv_room (Nat.le_of_ble_eq_true rfl)) dL_law_508 ⟨by show cells + 2 + 0 ≤ 601024; omega, by show slots + 12 + 0 ≤ 7293034; omega⟩) hwm hA (fun H locs hwm => ?_)
  have hw := xwX hw.1 hwm
  refine lv_istore (lv' := [(6, .int b9), (5, .int (xcd 1 2 9 9 o)), (0, .ref b), (1, .ref (aX 0)), (2, .ref (aM 0)), (3, .ref ao), (4, .int (nI (6 * n)))]) hx hb dL_law_511 hl (by decide) rfl (fun ls hl => ?_)
  refine lv_aload_n hx hb dL_law_513 rfl (lv_at hl 4 rfl) ?_
  have hwm := xwM hw
  refine x_calli (va_runV (As := []) (rest := []) ⟨hx, hb, hml, hown, hts⟩ (mX12_thrown (E := xEM D aX aM cA g ao cL σX1 (xou fo o)) rfl σM1 (σM1 0 0) σM1 (show fX12_thrown σM1 = some (σM1 0 0, σM1) from rfl) H.size) (cwV 0 hts gL_law_X12_thrown rfl rfl rfl (by decide +kernel) ⟨Nat.le_of_ble_eq_true rfl, Nat.le_of_ble_eq_true rfl⟩) (x_preV _ hwm hA hG (cM0 rfl) rfl) rfl rfl hl.1 rfl (lv_room (Nat.le_of_ble_eq_true rfl)) dL_law_514 ⟨by show cells + 2 + 0 ≤ 601024; omega, by show slots + 12 + 0 ≤ 7293034; omega⟩) hwm hA (fun H locs hwm => ?_)
  have hw := xwX hw.1 hwm
  refine lv_iload hx hb dL_law_517 (lv_at hl 1 rfl) ?_
  refine lv_icmp_eq (tgt := 524) hx hb dL_law_519 (by decide) (fun _ => ?_) (fun h9 => absurd hth h9)
  refine lv_iload hx hb dL_law_524 (lv_at hl 1 rfl) ?_
  cases o with
  | inl v =>
    · refine lv_if_ne (tgt := 541) hx hb dL_law_526 (by decide) (fun h9 => absurd rfl h9) (fun _ => ?_)
      refine lv_aload_n hx hb dL_law_529 rfl (lv_at hl 5 rfl) ?_
      refine lv_iconst (v := 0) hx hb dL_law_530 (by decide) ?_
      refine x_wlald hx hb hw dL_law_531 ?_
      refine lv_iload hx hb dL_law_532 (lv_at hl 0 rfl) ?_
      refine lv_i2l hx hb dL_law_534 rfl ?_
      refine W.lcmp hx hb dL_law_535 ?_
      refine lv_if_eq (tgt := 541) hx hb dL_law_536 (by decide) (fun _ => ?_) (fun h9 => absurd ((lg_cmp_eq _ _).mpr (by rw [ha v rfl]; rfl)) h9)
      refine lv_goto (tgt := 2908) hx hb dL_law_541 (by decide) ?_
      refine W.widen (k := cells + 20) (n := slots + 120) (by omega) (by omega) ?_
      exact kk _ _ _ hw (lv_sub hl [2, 3, 4, 5, 6] rfl)
  | inr k =>
    · refine lv_if_ne (tgt := 541) hx hb dL_law_526 (by decide) (fun _ => ?_) (fun h9 => absurd h9 (xcd_ne (by decide) (by decide) (by decide) (by decide)))
      refine lv_goto (tgt := 2908) hx hb dL_law_541 (by decide) ?_
      refine W.widen (k := cells + 20) (n := slots + 120) (by omega) (by omega) ?_
      exact kk _ _ _ hw (lv_sub hl [2, 3, 4, 5, 6] rfl)

set_option maxRecDepth 100000 in
set_option maxHeartbeats 4000000 in
theorem lawc_4 {p : Program} {l : Launch} {e : Env} {t : State} {m : MethodId} {args : Array Value} {below : List Frame} {meth : Method} {c : Code} {Q : State → Prop} {H : Heap} {locs : List Loc} {cells slots b L n : Nat} {xs : Nat → Int32} {A : Nat → Prop} {D : va_G} {aX aM : Nat → Nat} {cA cL : ClassId} {ao : Nat} {g : Nat × Nat × (Nat → Nat)} {σX σM : xSt} {fo : Nat → Int64} {ls : Array Slot} (hl0 : l.stackTraces = false) (Cx : xLC p t m args c b L n xs A g) (hw : xwW (xEX D aX aM cA g σM) ao cL A t.heap t σX fo H locs) (hl : lv_has ls 9 (xLl b (aX 0) (aM 0) ao (nI (6 * n)))) (hcs : cells + 20 ≤ 601024 ∧ slots + 120 ≤ 7293034) (o : xO) (b9 : Int32) (σX1 σM1 : xSt) (hfX : fX11_setPart (xs (6 * n + 1)) (xs (6 * n + 2)) (xs (6 * n + 3)) σX = some (o, σX1)) (hk : ∀ k, o = .inr k → k = 0 ∨ k = 1) (hfM : fX12_setPart (xs (6 * n + 1)) (xs (6 * n + 2)) (xs (6 * n + 3)) σM = some (b9, σM1)) (hth : σM1 0 0 = xcd 1 2 9 9 o) (ha : ∀ v, o = .inl v → v = b9) (kk : ∀ (H : Heap) (locs : List Loc) (ls : Array Slot), xwW (xEX D aX aM cA g σM1) ao cL A t.heap t σX1 (xou fo o) H locs → lv_has ls 9 (xLl b (aX 0) (aM 0) ao (nI (6 * n))) → W p l e room_1 t m args below meth c H locs (cells + 20) (slots + 120) Q (F0 m 2908 ls [])) : W p l e room_1 t m args below meth c H locs cells slots Q (F0 m 544 ls []) := by
  obtain ⟨hx, hb, hml, hown, hts, hXs, hbl, hn, hA, hbA, hG, hN⟩ := id Cx
  refine lv_aload_n hx hb dL_law_544 rfl (lv_at hl 1 rfl) ?_
  refine x_arg Cx hw.2.2.2 (lv_at hl 0 rfl) (lv_at hl 4 rfl) (k := 1) (by decide) (kv := 1) (by decide) dL_law_545 dL_law_546 (fun h9 => lv_iconst (v := 1) hx hb dL_law_548 (by decide) h9) dL_law_549 dL_law_550 ?_
  refine x_arg Cx hw.2.2.2 (lv_at hl 0 rfl) (lv_at hl 4 rfl) (k := 2) (by decide) (kv := 2) (by decide) dL_law_551 dL_law_552 (fun h9 => lv_iconst (v := 2) hx hb dL_law_554 (by decide) h9) dL_law_555 dL_law_556 ?_
  refine x_arg Cx hw.2.2.2 (lv_at hl 0 rfl) (lv_at hl 4 rfl) (k := 3) (by decide) (kv := 3) (by decide) dL_law_557 dL_law_558 (fun h9 => lv_iconst (v := 3) hx hb dL_law_560 (by decide) h9) dL_law_561 dL_law_562 ?_
  refine lv_aload_n hx hb dL_law_563 rfl (lv_at hl 3 rfl) ?_
  refine x_wcalli (vx_runSX (hh := [(0, 12, 15, 13), (0, 12, 19, 15)]) (As := [.ref (aX 0), .int (xs (6 * n + 1)), .int (xs (6 * n + 2)), .int (xs (6 * n + 3)), .ref ao]) (rest := []) ⟨hx, hb, hml, hown, hts⟩ (mL_setPart hl0 (E := xEX D aX aM cA g σM) rfl ao cL (xs (6 * n + 1)) (xs (6 * n + 2)) (xs (6 * n + 3)) σX fo o σX1 hfX hk H.size) (vx_cwSW 5 hts gL_law_L_setPart rfl rfl rfl (by decide +kernel) ⟨Nat.le_of_ble_eq_true rfl, Nat.le_of_ble_eq_true rfl⟩) (x_preW _ hw hA hG hN) rfl rfl hl.1 rfl (lv_room (Nat.le_of_ble_eq_true rfl)) dL_law_564 ⟨by show cells + 3 ≤ 601024; omega, by show slots + 18 ≤ 7293034; omega⟩) hw hA (fun H locs hw => ?_)
  refine lv_istore (lv' := [(5, .int (xcd 1 2 9 9 o)), (0, .ref b), (1, .ref (aX 0)), (2, .ref (aM 0)), (3, .ref ao), (4, .int (nI (6 * n)))]) hx hb dL_law_567 hl (by decide) rfl (fun ls hl => ?_)
  refine lv_aload_n hx hb dL_law_569 rfl (lv_at hl 3 rfl) ?_
  refine x_arg Cx hw.2.2.2 (lv_at hl 1 rfl) (lv_at hl 5 rfl) (k := 1) (by decide) (kv := 1) (by decide) dL_law_570 dL_law_571 (fun h9 => lv_iconst (v := 1) hx hb dL_law_573 (by decide) h9) dL_law_574 dL_law_575 ?_
  refine x_arg Cx hw.2.2.2 (lv_at hl 1 rfl) (lv_at hl 5 rfl) (k := 2) (by decide) (kv := 2) (by decide) dL_law_576 dL_law_577 (fun h9 => lv_iconst (v := 2) hx hb dL_law_579 (by decide) h9) dL_law_580 dL_law_581 ?_
  refine x_arg Cx hw.2.2.2 (lv_at hl 1 rfl) (lv_at hl 5 rfl) (k := 3) (by decide) (kv := 3) (by decide) dL_law_582 dL_law_583 (fun h9 => lv_iconst (v := 3) hx hb dL_law_585 (by decide) h9) dL_law_586 dL_law_587 ?_
  have hwm := xwM hw
  refine x_calli (va_runV (As := [.int (xs (6 * n + 1)), .int (xs (6 * n + 2)), .int (xs (6 * n + 3))]) (rest := []) ⟨hx, hb, hml, hown, hts⟩ (mX12_setPart (E := xEM D aX aM cA g ao cL σX1 (xou fo o)) rfl (xs (6 * n + 1)) (xs (6 * n + 2)) (xs (6 * n + 3)) σM b9 σM1 hfM H.size) (cwV 3 hts gL_law_X12_setPart rfl rfl rfl (by decide +kernel) ⟨Nat.le_of_ble_eq_true rfl, Nat.le_of_ble_eq_true rfl⟩) (x_preV _ hwm hA hG (cM0 rfl) rfl) rfl rfl hl.1 rfl (lv_room (Nat.le_of_ble_eq_true rfl)) dL_law_588 ⟨by show cells + 3 + 0 ≤ 601024; omega, by show slots + 18 + 0 ≤ 7293034; omega⟩) hwm hA (fun H locs hwm => ?_)
  have hw := xwX hw.1 hwm
  refine lv_istore (lv' := [(6, .int b9), (5, .int (xcd 1 2 9 9 o)), (0, .ref b), (1, .ref (aX 0)), (2, .ref (aM 0)), (3, .ref ao), (4, .int (nI (6 * n)))]) hx hb dL_law_591 hl (by decide) rfl (fun ls hl => ?_)
  refine lv_aload_n hx hb dL_law_593 rfl (lv_at hl 4 rfl) ?_
  have hwm := xwM hw
  refine x_calli (va_runV (As := []) (rest := []) ⟨hx, hb, hml, hown, hts⟩ (mX12_thrown (E := xEM D aX aM cA g ao cL σX1 (xou fo o)) rfl σM1 (σM1 0 0) σM1 (show fX12_thrown σM1 = some (σM1 0 0, σM1) from rfl) H.size) (cwV 0 hts gL_law_X12_thrown rfl rfl rfl (by decide +kernel) ⟨Nat.le_of_ble_eq_true rfl, Nat.le_of_ble_eq_true rfl⟩) (x_preV _ hwm hA hG (cM0 rfl) rfl) rfl rfl hl.1 rfl (lv_room (Nat.le_of_ble_eq_true rfl)) dL_law_594 ⟨by show cells + 3 + 0 ≤ 601024; omega, by show slots + 18 + 0 ≤ 7293034; omega⟩) hwm hA (fun H locs hwm => ?_)
  have hw := xwX hw.1 hwm
  refine lv_iload hx hb dL_law_597 (lv_at hl 1 rfl) ?_
  refine lv_icmp_eq (tgt := 604) hx hb dL_law_599 (by decide) (fun _ => ?_) (fun h9 => absurd hth h9)
  refine lv_iload hx hb dL_law_604 (lv_at hl 1 rfl) ?_
  cases o with
  | inl v =>
    · refine lv_if_ne (tgt := 621) hx hb dL_law_606 (by decide) (fun h9 => absurd rfl h9) (fun _ => ?_)
      refine lv_aload_n hx hb dL_law_609 rfl (lv_at hl 5 rfl) ?_
      refine lv_iconst (v := 0) hx hb dL_law_610 (by decide) ?_
      refine x_wlald hx hb hw dL_law_611 ?_
      refine lv_iload hx hb dL_law_612 (lv_at hl 0 rfl) ?_
      refine lv_i2l hx hb dL_law_614 rfl ?_
      refine W.lcmp hx hb dL_law_615 ?_
      refine lv_if_eq (tgt := 621) hx hb dL_law_616 (by decide) (fun _ => ?_) (fun h9 => absurd ((lg_cmp_eq _ _).mpr (by rw [ha v rfl]; rfl)) h9)
      refine lv_goto (tgt := 2908) hx hb dL_law_621 (by decide) ?_
      refine W.widen (k := cells + 20) (n := slots + 120) (by omega) (by omega) ?_
      exact kk _ _ _ hw (lv_sub hl [2, 3, 4, 5, 6] rfl)
  | inr k =>
    · refine lv_if_ne (tgt := 621) hx hb dL_law_606 (by decide) (fun _ => ?_) (fun h9 => absurd h9 (xcd_ne (by decide) (by decide) (by decide) (by decide)))
      refine lv_goto (tgt := 2908) hx hb dL_law_621 (by decide) ?_
      refine W.widen (k := cells + 20) (n := slots + 120) (by omega) (by omega) ?_
      exact kk _ _ _ hw (lv_sub hl [2, 3, 4, 5, 6] rfl)

set_option maxRecDepth 100000 in
set_option maxHeartbeats 4000000 in
theorem lawc_5 {p : Program} {l : Launch} {e : Env} {t : State} {m : MethodId} {args : Array Value} {below : List Frame} {meth : Method} {c : Code} {Q : State → Prop} {H : Heap} {locs : List Loc} {cells slots b L n : Nat} {xs : Nat → Int32} {A : Nat → Prop} {D : va_G} {aX aM : Nat → Nat} {cA cL : ClassId} {ao : Nat} {g : Nat × Nat × (Nat → Nat)} {σX σM : xSt} {fo : Nat → Int64} {ls : Array Slot} (hl0 : l.stackTraces = false) (Cx : xLC p t m args c b L n xs A g) (hw : xwW (xEX D aX aM cA g σM) ao cL A t.heap t σX fo H locs) (hl : lv_has ls 9 (xLl b (aX 0) (aM 0) ao (nI (6 * n)))) (hcs : cells + 20 ≤ 601024 ∧ slots + 120 ≤ 7293034) (o : xO) (b9 : Int32) (σX1 σM1 : xSt) (hfX : fX11_readParts (xs (6 * n + 1)) σX = some (o, σX1)) (hk : ∀ k, o = .inr k → k = 0 ∨ k = 1) (hfM : fX12_readParts (xs (6 * n + 1)) σM = some (b9, σM1)) (hth : σM1 0 0 = xcd 1 2 9 9 o) (ha : ∀ v, o = .inl v → v = b9) (kk : ∀ (H : Heap) (locs : List Loc) (ls : Array Slot), xwW (xEX D aX aM cA g σM1) ao cL A t.heap t σX1 (xou fo o) H locs → lv_has ls 9 (xLl b (aX 0) (aM 0) ao (nI (6 * n))) → W p l e room_1 t m args below meth c H locs (cells + 20) (slots + 120) Q (F0 m 2908 ls [])) : W p l e room_1 t m args below meth c H locs cells slots Q (F0 m 624 ls []) := by
  obtain ⟨hx, hb, hml, hown, hts, hXs, hbl, hn, hA, hbA, hG, hN⟩ := id Cx
  refine lv_aload_n hx hb dL_law_624 rfl (lv_at hl 1 rfl) ?_
  refine x_arg Cx hw.2.2.2 (lv_at hl 0 rfl) (lv_at hl 4 rfl) (k := 1) (by decide) (kv := 1) (by decide) dL_law_625 dL_law_626 (fun h9 => lv_iconst (v := 1) hx hb dL_law_628 (by decide) h9) dL_law_629 dL_law_630 ?_
  refine lv_aload_n hx hb dL_law_631 rfl (lv_at hl 3 rfl) ?_
  refine x_wcalli (vx_runSX (hh := [(0, 9, 12, 13), (0, 9, 15, 15)]) (As := [.ref (aX 0), .int (xs (6 * n + 1)), .ref ao]) (rest := []) ⟨hx, hb, hml, hown, hts⟩ (mL_readParts hl0 (E := xEX D aX aM cA g σM) rfl ao cL (xs (6 * n + 1)) σX fo o σX1 hfX hk H.size) (vx_cwSW 3 hts gL_law_L_readParts rfl rfl rfl (by decide +kernel) ⟨Nat.le_of_ble_eq_true rfl, Nat.le_of_ble_eq_true rfl⟩) (x_preW _ hw hA hG hN) rfl rfl hl.1 rfl (lv_room (Nat.le_of_ble_eq_true rfl)) dL_law_632 ⟨by show cells + 2 ≤ 601024; omega, by show slots + 12 ≤ 7293034; omega⟩) hw hA (fun H locs hw => ?_)
  refine lv_istore (lv' := [(5, .int (xcd 1 2 9 9 o)), (0, .ref b), (1, .ref (aX 0)), (2, .ref (aM 0)), (3, .ref ao), (4, .int (nI (6 * n)))]) hx hb dL_law_635 hl (by decide) rfl (fun ls hl => ?_)
  refine lv_aload_n hx hb dL_law_637 rfl (lv_at hl 3 rfl) ?_
  refine x_arg Cx hw.2.2.2 (lv_at hl 1 rfl) (lv_at hl 5 rfl) (k := 1) (by decide) (kv := 1) (by decide) dL_law_638 dL_law_639 (fun h9 => lv_iconst (v := 1) hx hb dL_law_641 (by decide) h9) dL_law_642 dL_law_643 ?_
  have hwm := xwM hw
  refine x_calli (va_runV (As := [.int (xs (6 * n + 1))]) (rest := []) ⟨hx, hb, hml, hown, hts⟩ (mX12_readParts (E := xEM D aX aM cA g ao cL σX1 (xou fo o)) rfl (xs (6 * n + 1)) σM b9 σM1 hfM H.size) (cwV 1 hts gL_law_X12_readParts rfl rfl rfl (by decide +kernel) ⟨Nat.le_of_ble_eq_true rfl, Nat.le_of_ble_eq_true rfl⟩) (x_preV _ hwm hA hG (cM0 rfl) rfl) rfl rfl hl.1 rfl (lv_room (Nat.le_of_ble_eq_true rfl)) dL_law_644 ⟨by show cells + 2 + 0 ≤ 601024; omega, by show slots + 12 + 0 ≤ 7293034; omega⟩) hwm hA (fun H locs hwm => ?_)
  have hw := xwX hw.1 hwm
  refine lv_istore (lv' := [(6, .int b9), (5, .int (xcd 1 2 9 9 o)), (0, .ref b), (1, .ref (aX 0)), (2, .ref (aM 0)), (3, .ref ao), (4, .int (nI (6 * n)))]) hx hb dL_law_647 hl (by decide) rfl (fun ls hl => ?_)
  refine lv_aload_n hx hb dL_law_649 rfl (lv_at hl 4 rfl) ?_
  have hwm := xwM hw
  refine x_calli (va_runV (As := []) (rest := []) ⟨hx, hb, hml, hown, hts⟩ (mX12_thrown (E := xEM D aX aM cA g ao cL σX1 (xou fo o)) rfl σM1 (σM1 0 0) σM1 (show fX12_thrown σM1 = some (σM1 0 0, σM1) from rfl) H.size) (cwV 0 hts gL_law_X12_thrown rfl rfl rfl (by decide +kernel) ⟨Nat.le_of_ble_eq_true rfl, Nat.le_of_ble_eq_true rfl⟩) (x_preV _ hwm hA hG (cM0 rfl) rfl) rfl rfl hl.1 rfl (lv_room (Nat.le_of_ble_eq_true rfl)) dL_law_650 ⟨by show cells + 2 + 0 ≤ 601024; omega, by show slots + 12 + 0 ≤ 7293034; omega⟩) hwm hA (fun H locs hwm => ?_)
  have hw := xwX hw.1 hwm
  refine lv_iload hx hb dL_law_653 (lv_at hl 1 rfl) ?_
  refine lv_icmp_eq (tgt := 660) hx hb dL_law_655 (by decide) (fun _ => ?_) (fun h9 => absurd hth h9)
  refine lv_iload hx hb dL_law_660 (lv_at hl 1 rfl) ?_
  cases o with
  | inl v =>
    · refine lv_if_ne (tgt := 677) hx hb dL_law_662 (by decide) (fun h9 => absurd rfl h9) (fun _ => ?_)
      refine lv_aload_n hx hb dL_law_665 rfl (lv_at hl 5 rfl) ?_
      refine lv_iconst (v := 0) hx hb dL_law_666 (by decide) ?_
      refine x_wlald hx hb hw dL_law_667 ?_
      refine lv_iload hx hb dL_law_668 (lv_at hl 0 rfl) ?_
      refine lv_i2l hx hb dL_law_670 rfl ?_
      refine W.lcmp hx hb dL_law_671 ?_
      refine lv_if_eq (tgt := 677) hx hb dL_law_672 (by decide) (fun _ => ?_) (fun h9 => absurd ((lg_cmp_eq _ _).mpr (by rw [ha v rfl]; rfl)) h9)
      refine lv_goto (tgt := 2908) hx hb dL_law_677 (by decide) ?_
      refine W.widen (k := cells + 20) (n := slots + 120) (by omega) (by omega) ?_
      exact kk _ _ _ hw (lv_sub hl [2, 3, 4, 5, 6] rfl)
  | inr k =>
    · refine lv_if_ne (tgt := 677) hx hb dL_law_662 (by decide) (fun _ => ?_) (fun h9 => absurd h9 (xcd_ne (by decide) (by decide) (by decide) (by decide)))
      refine lv_goto (tgt := 2908) hx hb dL_law_677 (by decide) ?_
      refine W.widen (k := cells + 20) (n := slots + 120) (by omega) (by omega) ?_
      exact kk _ _ _ hw (lv_sub hl [2, 3, 4, 5, 6] rfl)

set_option maxRecDepth 100000 in
set_option maxHeartbeats 4000000 in
theorem lawc_6 {p : Program} {l : Launch} {e : Env} {t : State} {m : MethodId} {args : Array Value} {below : List Frame} {meth : Method} {c : Code} {Q : State → Prop} {H : Heap} {locs : List Loc} {cells slots b L n : Nat} {xs : Nat → Int32} {A : Nat → Prop} {D : va_G} {aX aM : Nat → Nat} {cA cL : ClassId} {ao : Nat} {g : Nat × Nat × (Nat → Nat)} {σX σM : xSt} {fo : Nat → Int64} {ls : Array Slot} (hl0 : l.stackTraces = false) (Cx : xLC p t m args c b L n xs A g) (hw : xwW (xEX D aX aM cA g σM) ao cL A t.heap t σX fo H locs) (hl : lv_has ls 9 (xLl b (aX 0) (aM 0) ao (nI (6 * n)))) (hcs : cells + 20 ≤ 601024 ∧ slots + 120 ≤ 7293034) (o : xO) (b9 : Int32) (σX1 σM1 : xSt) (hfX : fX11_amount (xs (6 * n + 1)) (xs (6 * n + 2)) (xs (6 * n + 3)) σX = some (o, σX1)) (hk : ∀ k, o = .inr k → k = 0 ∨ k = 1 ∨ k = 2) (hfM : fX12_amount (xs (6 * n + 1)) (xs (6 * n + 2)) (xs (6 * n + 3)) σM = some (b9, σM1)) (hth : σM1 0 0 = xcd 1 2 3 9 o) (ha : ∀ v, o = .inl v → v = b9) (kk : ∀ (H : Heap) (locs : List Loc) (ls : Array Slot), xwW (xEX D aX aM cA g σM1) ao cL A t.heap t σX1 (xou fo o) H locs → lv_has ls 9 (xLl b (aX 0) (aM 0) ao (nI (6 * n))) → W p l e room_1 t m args below meth c H locs (cells + 20) (slots + 120) Q (F0 m 2908 ls [])) : W p l e room_1 t m args below meth c H locs cells slots Q (F0 m 680 ls []) := by
  obtain ⟨hx, hb, hml, hown, hts, hXs, hbl, hn, hA, hbA, hG, hN⟩ := id Cx
  refine lv_aload_n hx hb dL_law_680 rfl (lv_at hl 1 rfl) ?_
  refine x_arg Cx hw.2.2.2 (lv_at hl 0 rfl) (lv_at hl 4 rfl) (k := 1) (by decide) (kv := 1) (by decide) dL_law_681 dL_law_682 (fun h9 => lv_iconst (v := 1) hx hb dL_law_684 (by decide) h9) dL_law_685 dL_law_686 ?_
  refine x_arg Cx hw.2.2.2 (lv_at hl 0 rfl) (lv_at hl 4 rfl) (k := 2) (by decide) (kv := 2) (by decide) dL_law_687 dL_law_688 (fun h9 => lv_iconst (v := 2) hx hb dL_law_690 (by decide) h9) dL_law_691 dL_law_692 ?_
  refine x_arg Cx hw.2.2.2 (lv_at hl 0 rfl) (lv_at hl 4 rfl) (k := 3) (by decide) (kv := 3) (by decide) dL_law_693 dL_law_694 (fun h9 => lv_iconst (v := 3) hx hb dL_law_696 (by decide) h9) dL_law_697 dL_law_698 ?_
  refine lv_aload_n hx hb dL_law_699 rfl (lv_at hl 3 rfl) ?_
  refine x_wcalli (vx_runSX (hh := [(0, 12, 15, 13), (0, 12, 19, 15), (0, 12, 23, 17)]) (As := [.ref (aX 0), .int (xs (6 * n + 1)), .int (xs (6 * n + 2)), .int (xs (6 * n + 3)), .ref ao]) (rest := []) ⟨hx, hb, hml, hown, hts⟩ (mL_amount hl0 (E := xEX D aX aM cA g σM) rfl ao cL (xs (6 * n + 1)) (xs (6 * n + 2)) (xs (6 * n + 3)) σX fo o σX1 hfX hk H.size) (vx_cwSW 5 hts gL_law_L_amount rfl rfl rfl (by decide +kernel) ⟨Nat.le_of_ble_eq_true rfl, Nat.le_of_ble_eq_true rfl⟩) (x_preW _ hw hA hG hN) rfl rfl hl.1 rfl (lv_room (Nat.le_of_ble_eq_true rfl)) dL_law_700 ⟨by show cells + 4 ≤ 601024; omega, by show slots + 24 ≤ 7293034; omega⟩) hw hA (fun H locs hw => ?_)
  refine lv_istore (lv' := [(5, .int (xcd 1 2 3 9 o)), (0, .ref b), (1, .ref (aX 0)), (2, .ref (aM 0)), (3, .ref ao), (4, .int (nI (6 * n)))]) hx hb dL_law_703 hl (by decide) rfl (fun ls hl => ?_)
  refine lv_aload_n hx hb dL_law_705 rfl (lv_at hl 3 rfl) ?_
  refine x_arg Cx hw.2.2.2 (lv_at hl 1 rfl) (lv_at hl 5 rfl) (k := 1) (by decide) (kv := 1) (by decide) dL_law_706 dL_law_707 (fun h9 => lv_iconst (v := 1) hx hb dL_law_709 (by decide) h9) dL_law_710 dL_law_711 ?_
  refine x_arg Cx hw.2.2.2 (lv_at hl 1 rfl) (lv_at hl 5 rfl) (k := 2) (by decide) (kv := 2) (by decide) dL_law_712 dL_law_713 (fun h9 => lv_iconst (v := 2) hx hb dL_law_715 (by decide) h9) dL_law_716 dL_law_717 ?_
  refine x_arg Cx hw.2.2.2 (lv_at hl 1 rfl) (lv_at hl 5 rfl) (k := 3) (by decide) (kv := 3) (by decide) dL_law_718 dL_law_719 (fun h9 => lv_iconst (v := 3) hx hb dL_law_721 (by decide) h9) dL_law_722 dL_law_723 ?_
  have hwm := xwM hw
  refine x_calli (va_runV (As := [.int (xs (6 * n + 1)), .int (xs (6 * n + 2)), .int (xs (6 * n + 3))]) (rest := []) ⟨hx, hb, hml, hown, hts⟩ (mX12_amount (E := xEM D aX aM cA g ao cL σX1 (xou fo o)) rfl (xs (6 * n + 1)) (xs (6 * n + 2)) (xs (6 * n + 3)) σM b9 σM1 hfM H.size) (cwV 3 hts gL_law_X12_amount rfl rfl rfl (by decide +kernel) ⟨Nat.le_of_ble_eq_true rfl, Nat.le_of_ble_eq_true rfl⟩) (x_preV _ hwm hA hG (cM0 rfl) rfl) rfl rfl hl.1 rfl (lv_room (Nat.le_of_ble_eq_true rfl)) dL_law_724 ⟨by show cells + 4 + 0 ≤ 601024; omega, by show slots + 24 + 0 ≤ 7293034; omega⟩) hwm hA (fun H locs hwm => ?_)
  have hw := xwX hw.1 hwm
  refine lv_istore (lv' := [(6, .int b9), (5, .int (xcd 1 2 3 9 o)), (0, .ref b), (1, .ref (aX 0)), (2, .ref (aM 0)), (3, .ref ao), (4, .int (nI (6 * n)))]) hx hb dL_law_727 hl (by decide) rfl (fun ls hl => ?_)
  refine lv_aload_n hx hb dL_law_729 rfl (lv_at hl 4 rfl) ?_
  have hwm := xwM hw
  refine x_calli (va_runV (As := []) (rest := []) ⟨hx, hb, hml, hown, hts⟩ (mX12_thrown (E := xEM D aX aM cA g ao cL σX1 (xou fo o)) rfl σM1 (σM1 0 0) σM1 (show fX12_thrown σM1 = some (σM1 0 0, σM1) from rfl) H.size) (cwV 0 hts gL_law_X12_thrown rfl rfl rfl (by decide +kernel) ⟨Nat.le_of_ble_eq_true rfl, Nat.le_of_ble_eq_true rfl⟩) (x_preV _ hwm hA hG (cM0 rfl) rfl) rfl rfl hl.1 rfl (lv_room (Nat.le_of_ble_eq_true rfl)) dL_law_730 ⟨by show cells + 4 + 0 ≤ 601024; omega, by show slots + 24 + 0 ≤ 7293034; omega⟩) hwm hA (fun H locs hwm => ?_)
  have hw := xwX hw.1 hwm
  refine lv_iload hx hb dL_law_733 (lv_at hl 1 rfl) ?_
  refine lv_icmp_eq (tgt := 740) hx hb dL_law_735 (by decide) (fun _ => ?_) (fun h9 => absurd hth h9)
  refine lv_iload hx hb dL_law_740 (lv_at hl 1 rfl) ?_
  cases o with
  | inl v =>
    · refine lv_if_ne (tgt := 757) hx hb dL_law_742 (by decide) (fun h9 => absurd rfl h9) (fun _ => ?_)
      refine lv_aload_n hx hb dL_law_745 rfl (lv_at hl 5 rfl) ?_
      refine lv_iconst (v := 0) hx hb dL_law_746 (by decide) ?_
      refine x_wlald hx hb hw dL_law_747 ?_
      refine lv_iload hx hb dL_law_748 (lv_at hl 0 rfl) ?_
      refine lv_i2l hx hb dL_law_750 rfl ?_
      refine W.lcmp hx hb dL_law_751 ?_
      refine lv_if_eq (tgt := 757) hx hb dL_law_752 (by decide) (fun _ => ?_) (fun h9 => absurd ((lg_cmp_eq _ _).mpr (by rw [ha v rfl]; rfl)) h9)
      refine lv_goto (tgt := 2908) hx hb dL_law_757 (by decide) ?_
      refine W.widen (k := cells + 20) (n := slots + 120) (by omega) (by omega) ?_
      exact kk _ _ _ hw (lv_sub hl [2, 3, 4, 5, 6] rfl)
  | inr k =>
    · refine lv_if_ne (tgt := 757) hx hb dL_law_742 (by decide) (fun _ => ?_) (fun h9 => absurd h9 (xcd_ne (by decide) (by decide) (by decide) (by decide)))
      refine lv_goto (tgt := 2908) hx hb dL_law_757 (by decide) ?_
      refine W.widen (k := cells + 20) (n := slots + 120) (by omega) (by omega) ?_
      exact kk _ _ _ hw (lv_sub hl [2, 3, 4, 5, 6] rfl)

set_option maxRecDepth 100000 in
set_option maxHeartbeats 4000000 in
theorem lawc_7 {p : Program} {l : Launch} {e : Env} {t : State} {m : MethodId} {args : Array Value} {below : List Frame} {meth : Method} {c : Code} {Q : State → Prop} {H : Heap} {locs : List Loc} {cells slots b L n : Nat} {xs : Nat → Int32} {A : Nat → Prop} {D : va_G} {aX aM : Nat → Nat} {cA cL : ClassId} {ao : Nat} {g : Nat × Nat × (Nat → Nat)} {σX σM : xSt} {fo : Nat → Int64} {ls : Array Slot} (hl0 : l.stackTraces = false) (Cx : xLC p t m args c b L n xs A g) (hw : xwW (xEX D aX aM cA g σM) ao cL A t.heap t σX fo H locs) (hl : lv_has ls 9 (xLl b (aX 0) (aM 0) ao (nI (6 * n)))) (hcs : cells + 20 ≤ 601024 ∧ slots + 120 ≤ 7293034) (v9 b9 : Int32) (σX1 σM1 : xSt) (hfX : fX11_recipeCount σX = some (v9, σX1)) (hfM : fX12_recipeCount σM = some (b9, σM1)) (heq : v9 = b9) (kk : ∀ (H : Heap) (locs : List Loc) (ls : Array Slot), xwW (xEX D aX aM cA g σM1) ao cL A t.heap t σX1 fo H locs → lv_has ls 9 (xLl b (aX 0) (aM 0) ao (nI (6 * n))) → W p l e room_1 t m args below meth c H locs (cells + 20) (slots + 120) Q (F0 m 2908 ls [])) : W p l e room_1 t m args below meth c H locs cells slots Q (F0 m 760 ls []) := by
  obtain ⟨hx, hb, hml, hown, hts, hXs, hbl, hn, hA, hbA, hG, hN⟩ := id Cx
  refine lv_aload_n hx hb dL_law_760 rfl (lv_at hl 1 rfl) ?_
  refine x_calli (va_runV (As := []) (rest := []) ⟨hx, hb, hml, hown, hts⟩ (mX11_recipeCount (E := xEO (xEX D aX aM cA g σM) ao cL fo) rfl σX v9 σX1 hfX H.size) (cwV 0 hts gL_law_X11_recipeCount rfl rfl rfl (by decide +kernel) ⟨Nat.le_of_ble_eq_true rfl, Nat.le_of_ble_eq_true rfl⟩) (x_preV _ hw.in hA hG (cX0 rfl) rfl) rfl rfl hl.1 rfl (lv_room (Nat.le_of_ble_eq_true rfl)) dL_law_761 ⟨by show cells + 0 ≤ 601024; omega, by show slots + 0 ≤ 7293034; omega⟩) hw.in hA (fun H locs hw9 => ?_)
  have hw := xwW.of hw.1 hw9
  refine lv_aload_n hx hb dL_law_764 rfl (lv_at hl 2 rfl) ?_
  have hwm := xwM hw
  refine x_calli (va_runV (As := []) (rest := [.int v9]) ⟨hx, hb, hml, hown, hts⟩ (mX12_recipeCount (E := xEM D aX aM cA g ao cL σX1 fo) rfl σM b9 σM1 hfM H.size) (cwV 0 hts gL_law_X12_recipeCount rfl rfl rfl (by decide +kernel) ⟨Nat.le_of_ble_eq_true rfl, Nat.le_of_ble_eq_true rfl⟩) (x_preV _ hwm hA hG (cM0 rfl) rfl) rfl rfl hl.1 rfl (lv_room (Nat.le_of_ble_eq_true rfl)) dL_law_765 ⟨by show cells + 0 ≤ 601024; omega, by show slots + 0 ≤ 7293034; omega⟩) hwm hA (fun H locs hwm => ?_)
  have hw := xwX hw.1 hwm
  refine lv_icmp_eq (tgt := 2908) hx hb dL_law_768 (by decide) (fun _ => ?_) (fun h9 => absurd heq h9)
  refine W.widen (k := cells + 20) (n := slots + 120) (by omega) (by omega) ?_
  exact kk _ _ _ hw (lv_sub hl [0, 1, 2, 3, 4] rfl)

set_option maxRecDepth 100000 in
set_option maxHeartbeats 4000000 in
theorem lawc_8 {p : Program} {l : Launch} {e : Env} {t : State} {m : MethodId} {args : Array Value} {below : List Frame} {meth : Method} {c : Code} {Q : State → Prop} {H : Heap} {locs : List Loc} {cells slots b L n : Nat} {xs : Nat → Int32} {A : Nat → Prop} {D : va_G} {aX aM : Nat → Nat} {cA cL : ClassId} {ao : Nat} {g : Nat × Nat × (Nat → Nat)} {σX σM : xSt} {fo : Nat → Int64} {ls : Array Slot} (hl0 : l.stackTraces = false) (Cx : xLC p t m args c b L n xs A g) (hw : xwW (xEX D aX aM cA g σM) ao cL A t.heap t σX fo H locs) (hl : lv_has ls 9 (xLl b (aX 0) (aM 0) ao (nI (6 * n)))) (hcs : cells + 20 ≤ 601024 ∧ slots + 120 ≤ 7293034) (o : xO) (b9 : Int32) (σX1 σM1 : xSt) (hfX : fX11_mix (xs (6 * n + 1)) (xs (6 * n + 2)) σX = some (o, σX1)) (hk : ∀ k, o = .inr k → k = 0 ∨ k = 1 ∨ k = 2) (hfM : fX12_mix (xs (6 * n + 1)) (xs (6 * n + 2)) σM = some (b9, σM1)) (hth : σM1 0 0 = xcd 1 2 3 9 o) (ha : ∀ v, o = .inl v → v = b9) (kk : ∀ (H : Heap) (locs : List Loc) (ls : Array Slot), xwW (xEX D aX aM cA g σM1) ao cL A t.heap t σX1 (xou fo o) H locs → lv_has ls 9 (xLl b (aX 0) (aM 0) ao (nI (6 * n))) → W p l e room_1 t m args below meth c H locs (cells + 20) (slots + 120) Q (F0 m 2908 ls [])) : W p l e room_1 t m args below meth c H locs cells slots Q (F0 m 773 ls []) := by
  obtain ⟨hx, hb, hml, hown, hts, hXs, hbl, hn, hA, hbA, hG, hN⟩ := id Cx
  refine lv_aload_n hx hb dL_law_773 rfl (lv_at hl 1 rfl) ?_
  refine x_arg Cx hw.2.2.2 (lv_at hl 0 rfl) (lv_at hl 4 rfl) (k := 1) (by decide) (kv := 1) (by decide) dL_law_774 dL_law_775 (fun h9 => lv_iconst (v := 1) hx hb dL_law_777 (by decide) h9) dL_law_778 dL_law_779 ?_
  refine x_arg Cx hw.2.2.2 (lv_at hl 0 rfl) (lv_at hl 4 rfl) (k := 2) (by decide) (kv := 2) (by decide) dL_law_780 dL_law_781 (fun h9 => lv_iconst (v := 2) hx hb dL_law_783 (by decide) h9) dL_law_784 dL_law_785 ?_
  refine lv_aload_n hx hb dL_law_786 rfl (lv_at hl 3 rfl) ?_
  refine x_wcalli (vx_runSX (hh := [(0, 10, 13, 13), (0, 10, 17, 15), (0, 10, 21, 17)]) (As := [.ref (aX 0), .int (xs (6 * n + 1)), .int (xs (6 * n + 2)), .ref ao]) (rest := []) ⟨hx, hb, hml, hown, hts⟩ (mL_mix hl0 (E := xEX D aX aM cA g σM) rfl ao cL (xs (6 * n + 1)) (xs (6 * n + 2)) σX fo o σX1 hfX hk H.size) (vx_cwSW 4 hts gL_law_L_mix rfl rfl rfl (by decide +kernel) ⟨Nat.le_of_ble_eq_true rfl, Nat.le_of_ble_eq_true rfl⟩) (x_preW _ hw hA hG hN) rfl rfl hl.1 rfl (lv_room (Nat.le_of_ble_eq_true rfl)) dL_law_787 ⟨by show cells + 3 ≤ 601024; omega, by show slots + 18 ≤ 7293034; omega⟩) hw hA (fun H locs hw => ?_)
  refine lv_istore (lv' := [(5, .int (xcd 1 2 3 9 o)), (0, .ref b), (1, .ref (aX 0)), (2, .ref (aM 0)), (3, .ref ao), (4, .int (nI (6 * n)))]) hx hb dL_law_790 hl (by decide) rfl (fun ls hl => ?_)
  refine lv_aload_n hx hb dL_law_792 rfl (lv_at hl 3 rfl) ?_
  refine x_arg Cx hw.2.2.2 (lv_at hl 1 rfl) (lv_at hl 5 rfl) (k := 1) (by decide) (kv := 1) (by decide) dL_law_793 dL_law_794 (fun h9 => lv_iconst (v := 1) hx hb dL_law_796 (by decide) h9) dL_law_797 dL_law_798 ?_
  refine x_arg Cx hw.2.2.2 (lv_at hl 1 rfl) (lv_at hl 5 rfl) (k := 2) (by decide) (kv := 2) (by decide) dL_law_799 dL_law_800 (fun h9 => lv_iconst (v := 2) hx hb dL_law_802 (by decide) h9) dL_law_803 dL_law_804 ?_
  have hwm := xwM hw
  refine x_calli (va_runV (As := [.int (xs (6 * n + 1)), .int (xs (6 * n + 2))]) (rest := []) ⟨hx, hb, hml, hown, hts⟩ (mX12_mix (E := xEM D aX aM cA g ao cL σX1 (xou fo o)) rfl (xs (6 * n + 1)) (xs (6 * n + 2)) σM b9 σM1 hfM H.size) (cwV 2 hts gL_law_X12_mix rfl rfl rfl (by decide +kernel) ⟨Nat.le_of_ble_eq_true rfl, Nat.le_of_ble_eq_true rfl⟩) (x_preV _ hwm hA hG (cM0 rfl) rfl) rfl rfl hl.1 rfl (lv_room (Nat.le_of_ble_eq_true rfl)) dL_law_805 ⟨by show cells + 3 + 0 ≤ 601024; omega, by show slots + 18 + 0 ≤ 7293034; omega⟩) hwm hA (fun H locs hwm => ?_)
  have hw := xwX hw.1 hwm
  refine lv_istore (lv' := [(6, .int b9), (5, .int (xcd 1 2 3 9 o)), (0, .ref b), (1, .ref (aX 0)), (2, .ref (aM 0)), (3, .ref ao), (4, .int (nI (6 * n)))]) hx hb dL_law_808 hl (by decide) rfl (fun ls hl => ?_)
  refine lv_aload_n hx hb dL_law_810 rfl (lv_at hl 4 rfl) ?_
  have hwm := xwM hw
  refine x_calli (va_runV (As := []) (rest := []) ⟨hx, hb, hml, hown, hts⟩ (mX12_thrown (E := xEM D aX aM cA g ao cL σX1 (xou fo o)) rfl σM1 (σM1 0 0) σM1 (show fX12_thrown σM1 = some (σM1 0 0, σM1) from rfl) H.size) (cwV 0 hts gL_law_X12_thrown rfl rfl rfl (by decide +kernel) ⟨Nat.le_of_ble_eq_true rfl, Nat.le_of_ble_eq_true rfl⟩) (x_preV _ hwm hA hG (cM0 rfl) rfl) rfl rfl hl.1 rfl (lv_room (Nat.le_of_ble_eq_true rfl)) dL_law_811 ⟨by show cells + 3 + 0 ≤ 601024; omega, by show slots + 18 + 0 ≤ 7293034; omega⟩) hwm hA (fun H locs hwm => ?_)
  have hw := xwX hw.1 hwm
  refine lv_iload hx hb dL_law_814 (lv_at hl 1 rfl) ?_
  refine lv_icmp_eq (tgt := 821) hx hb dL_law_816 (by decide) (fun _ => ?_) (fun h9 => absurd hth h9)
  refine lv_iload hx hb dL_law_821 (lv_at hl 1 rfl) ?_
  cases o with
  | inl v =>
    · refine lv_if_ne (tgt := 838) hx hb dL_law_823 (by decide) (fun h9 => absurd rfl h9) (fun _ => ?_)
      refine lv_aload_n hx hb dL_law_826 rfl (lv_at hl 5 rfl) ?_
      refine lv_iconst (v := 0) hx hb dL_law_827 (by decide) ?_
      refine x_wlald hx hb hw dL_law_828 ?_
      refine lv_iload hx hb dL_law_829 (lv_at hl 0 rfl) ?_
      refine lv_i2l hx hb dL_law_831 rfl ?_
      refine W.lcmp hx hb dL_law_832 ?_
      refine lv_if_eq (tgt := 838) hx hb dL_law_833 (by decide) (fun _ => ?_) (fun h9 => absurd ((lg_cmp_eq _ _).mpr (by rw [ha v rfl]; rfl)) h9)
      refine lv_goto (tgt := 2908) hx hb dL_law_838 (by decide) ?_
      refine W.widen (k := cells + 20) (n := slots + 120) (by omega) (by omega) ?_
      exact kk _ _ _ hw (lv_sub hl [2, 3, 4, 5, 6] rfl)
  | inr k =>
    · refine lv_if_ne (tgt := 838) hx hb dL_law_823 (by decide) (fun _ => ?_) (fun h9 => absurd h9 (xcd_ne (by decide) (by decide) (by decide) (by decide)))
      refine lv_goto (tgt := 2908) hx hb dL_law_838 (by decide) ?_
      refine W.widen (k := cells + 20) (n := slots + 120) (by omega) (by omega) ?_
      exact kk _ _ _ hw (lv_sub hl [2, 3, 4, 5, 6] rfl)

set_option maxRecDepth 100000 in
set_option maxHeartbeats 4000000 in
theorem lawc_9 {p : Program} {l : Launch} {e : Env} {t : State} {m : MethodId} {args : Array Value} {below : List Frame} {meth : Method} {c : Code} {Q : State → Prop} {H : Heap} {locs : List Loc} {cells slots b L n : Nat} {xs : Nat → Int32} {A : Nat → Prop} {D : va_G} {aX aM : Nat → Nat} {cA cL : ClassId} {ao : Nat} {g : Nat × Nat × (Nat → Nat)} {σX σM : xSt} {fo : Nat → Int64} {ls : Array Slot} (hl0 : l.stackTraces = false) (Cx : xLC p t m args c b L n xs A g) (hw : xwW (xEX D aX aM cA g σM) ao cL A t.heap t σX fo H locs) (hl : lv_has ls 9 (xLl b (aX 0) (aM 0) ao (nI (6 * n)))) (hcs : cells + 20 ≤ 601024 ∧ slots + 120 ≤ 7293034) (o : xO) (b9 : Int32) (σX1 σM1 : xSt) (hfX : fX11_setWarmth (xs (6 * n + 1)) σX = some (o, σX1)) (hk : ∀ k, o = .inr k → k = 1) (hfM : fX12_setWarmth (xs (6 * n + 1)) σM = some (b9, σM1)) (hth : σM1 0 0 = xcd 9 1 9 9 o) (ha : ∀ v, o = .inl v → v = b9) (kk : ∀ (H : Heap) (locs : List Loc) (ls : Array Slot), xwW (xEX D aX aM cA g σM1) ao cL A t.heap t σX1 (xou fo o) H locs → lv_has ls 9 (xLl b (aX 0) (aM 0) ao (nI (6 * n))) → W p l e room_1 t m args below meth c H locs (cells + 20) (slots + 120) Q (F0 m 2908 ls [])) : W p l e room_1 t m args below meth c H locs cells slots Q (F0 m 841 ls []) := by
  obtain ⟨hx, hb, hml, hown, hts, hXs, hbl, hn, hA, hbA, hG, hN⟩ := id Cx
  refine lv_aload_n hx hb dL_law_841 rfl (lv_at hl 1 rfl) ?_
  refine x_arg Cx hw.2.2.2 (lv_at hl 0 rfl) (lv_at hl 4 rfl) (k := 1) (by decide) (kv := 1) (by decide) dL_law_842 dL_law_843 (fun h9 => lv_iconst (v := 1) hx hb dL_law_845 (by decide) h9) dL_law_846 dL_law_847 ?_
  refine lv_aload_n hx hb dL_law_848 rfl (lv_at hl 3 rfl) ?_
  refine x_wcalli (vx_runSX (hh := [(0, 9, 12, 15)]) (As := [.ref (aX 0), .int (xs (6 * n + 1)), .ref ao]) (rest := []) ⟨hx, hb, hml, hown, hts⟩ (mL_setWarmth hl0 (E := xEX D aX aM cA g σM) rfl ao cL (xs (6 * n + 1)) σX fo o σX1 hfX hk H.size) (vx_cwSW 3 hts gL_law_L_setWarmth rfl rfl rfl (by decide +kernel) ⟨Nat.le_of_ble_eq_true rfl, Nat.le_of_ble_eq_true rfl⟩) (x_preW _ hw hA hG hN) rfl rfl hl.1 rfl (lv_room (Nat.le_of_ble_eq_true rfl)) dL_law_849 ⟨by show cells + 1 ≤ 601024; omega, by show slots + 6 ≤ 7293034; omega⟩) hw hA (fun H locs hw => ?_)
  refine lv_istore (lv' := [(5, .int (xcd 9 1 9 9 o)), (0, .ref b), (1, .ref (aX 0)), (2, .ref (aM 0)), (3, .ref ao), (4, .int (nI (6 * n)))]) hx hb dL_law_852 hl (by decide) rfl (fun ls hl => ?_)
  refine lv_aload_n hx hb dL_law_854 rfl (lv_at hl 3 rfl) ?_
  refine x_arg Cx hw.2.2.2 (lv_at hl 1 rfl) (lv_at hl 5 rfl) (k := 1) (by decide) (kv := 1) (by decide) dL_law_855 dL_law_856 (fun h9 => lv_iconst (v := 1) hx hb dL_law_858 (by decide) h9) dL_law_859 dL_law_860 ?_
  have hwm := xwM hw
  refine x_calli (va_runV (As := [.int (xs (6 * n + 1))]) (rest := []) ⟨hx, hb, hml, hown, hts⟩ (mX12_setWarmth (E := xEM D aX aM cA g ao cL σX1 (xou fo o)) rfl (xs (6 * n + 1)) σM b9 σM1 hfM H.size) (cwV 1 hts gL_law_X12_setWarmth rfl rfl rfl (by decide +kernel) ⟨Nat.le_of_ble_eq_true rfl, Nat.le_of_ble_eq_true rfl⟩) (x_preV _ hwm hA hG (cM0 rfl) rfl) rfl rfl hl.1 rfl (lv_room (Nat.le_of_ble_eq_true rfl)) dL_law_861 ⟨by show cells + 1 + 0 ≤ 601024; omega, by show slots + 6 + 0 ≤ 7293034; omega⟩) hwm hA (fun H locs hwm => ?_)
  have hw := xwX hw.1 hwm
  refine lv_istore (lv' := [(6, .int b9), (5, .int (xcd 9 1 9 9 o)), (0, .ref b), (1, .ref (aX 0)), (2, .ref (aM 0)), (3, .ref ao), (4, .int (nI (6 * n)))]) hx hb dL_law_864 hl (by decide) rfl (fun ls hl => ?_)
  refine lv_aload_n hx hb dL_law_866 rfl (lv_at hl 4 rfl) ?_
  have hwm := xwM hw
  refine x_calli (va_runV (As := []) (rest := []) ⟨hx, hb, hml, hown, hts⟩ (mX12_thrown (E := xEM D aX aM cA g ao cL σX1 (xou fo o)) rfl σM1 (σM1 0 0) σM1 (show fX12_thrown σM1 = some (σM1 0 0, σM1) from rfl) H.size) (cwV 0 hts gL_law_X12_thrown rfl rfl rfl (by decide +kernel) ⟨Nat.le_of_ble_eq_true rfl, Nat.le_of_ble_eq_true rfl⟩) (x_preV _ hwm hA hG (cM0 rfl) rfl) rfl rfl hl.1 rfl (lv_room (Nat.le_of_ble_eq_true rfl)) dL_law_867 ⟨by show cells + 1 + 0 ≤ 601024; omega, by show slots + 6 + 0 ≤ 7293034; omega⟩) hwm hA (fun H locs hwm => ?_)
  have hw := xwX hw.1 hwm
  refine lv_iload hx hb dL_law_870 (lv_at hl 1 rfl) ?_
  refine lv_icmp_eq (tgt := 877) hx hb dL_law_872 (by decide) (fun _ => ?_) (fun h9 => absurd hth h9)
  refine lv_iload hx hb dL_law_877 (lv_at hl 1 rfl) ?_
  cases o with
  | inl v =>
    · refine lv_if_ne (tgt := 894) hx hb dL_law_879 (by decide) (fun h9 => absurd rfl h9) (fun _ => ?_)
      refine lv_aload_n hx hb dL_law_882 rfl (lv_at hl 5 rfl) ?_
      refine lv_iconst (v := 0) hx hb dL_law_883 (by decide) ?_
      refine x_wlald hx hb hw dL_law_884 ?_
      refine lv_iload hx hb dL_law_885 (lv_at hl 0 rfl) ?_
      refine lv_i2l hx hb dL_law_887 rfl ?_
      refine W.lcmp hx hb dL_law_888 ?_
      refine lv_if_eq (tgt := 894) hx hb dL_law_889 (by decide) (fun _ => ?_) (fun h9 => absurd ((lg_cmp_eq _ _).mpr (by rw [ha v rfl]; rfl)) h9)
      refine lv_goto (tgt := 2908) hx hb dL_law_894 (by decide) ?_
      refine W.widen (k := cells + 20) (n := slots + 120) (by omega) (by omega) ?_
      exact kk _ _ _ hw (lv_sub hl [2, 3, 4, 5, 6] rfl)
  | inr k =>
    · refine lv_if_ne (tgt := 894) hx hb dL_law_879 (by decide) (fun _ => ?_) (fun h9 => absurd h9 (xcd_ne (by decide) (by decide) (by decide) (by decide)))
      refine lv_goto (tgt := 2908) hx hb dL_law_894 (by decide) ?_
      refine W.widen (k := cells + 20) (n := slots + 120) (by omega) (by omega) ?_
      exact kk _ _ _ hw (lv_sub hl [2, 3, 4, 5, 6] rfl)

set_option maxRecDepth 100000 in
set_option maxHeartbeats 4000000 in
theorem lawc_10 {p : Program} {l : Launch} {e : Env} {t : State} {m : MethodId} {args : Array Value} {below : List Frame} {meth : Method} {c : Code} {Q : State → Prop} {H : Heap} {locs : List Loc} {cells slots b L n : Nat} {xs : Nat → Int32} {A : Nat → Prop} {D : va_G} {aX aM : Nat → Nat} {cA cL : ClassId} {ao : Nat} {g : Nat × Nat × (Nat → Nat)} {σX σM : xSt} {fo : Nat → Int64} {ls : Array Slot} (hl0 : l.stackTraces = false) (Cx : xLC p t m args c b L n xs A g) (hw : xwW (xEX D aX aM cA g σM) ao cL A t.heap t σX fo H locs) (hl : lv_has ls 9 (xLl b (aX 0) (aM 0) ao (nI (6 * n)))) (hcs : cells + 20 ≤ 601024 ∧ slots + 120 ≤ 7293034) (o : xO) (b9 : Int32) (σX1 σM1 : xSt) (hfX : fX11_pass (xs (6 * n + 1)) σX = some (o, σX1)) (hk : ∀ k, o = .inr k → k = 1 ∨ k = 2) (hfM : fX12_pass (xs (6 * n + 1)) σM = some (b9, σM1)) (hth : σM1 0 0 = xcd 9 1 2 9 o) (ha : ∀ v, o = .inl v → v = b9) (kk : ∀ (H : Heap) (locs : List Loc) (ls : Array Slot), xwW (xEX D aX aM cA g σM1) ao cL A t.heap t σX1 (xou fo o) H locs → lv_has ls 9 (xLl b (aX 0) (aM 0) ao (nI (6 * n))) → W p l e room_1 t m args below meth c H locs (cells + 20) (slots + 120) Q (F0 m 2908 ls [])) : W p l e room_1 t m args below meth c H locs cells slots Q (F0 m 897 ls []) := by
  obtain ⟨hx, hb, hml, hown, hts, hXs, hbl, hn, hA, hbA, hG, hN⟩ := id Cx
  refine lv_aload_n hx hb dL_law_897 rfl (lv_at hl 1 rfl) ?_
  refine x_arg Cx hw.2.2.2 (lv_at hl 0 rfl) (lv_at hl 4 rfl) (k := 1) (by decide) (kv := 1) (by decide) dL_law_898 dL_law_899 (fun h9 => lv_iconst (v := 1) hx hb dL_law_901 (by decide) h9) dL_law_902 dL_law_903 ?_
  refine lv_aload_n hx hb dL_law_904 rfl (lv_at hl 3 rfl) ?_
  refine x_wcalli (vx_runSX (hh := [(0, 9, 12, 15), (0, 9, 15, 17)]) (As := [.ref (aX 0), .int (xs (6 * n + 1)), .ref ao]) (rest := []) ⟨hx, hb, hml, hown, hts⟩ (mL_pass hl0 (E := xEX D aX aM cA g σM) rfl ao cL (xs (6 * n + 1)) σX fo o σX1 hfX hk H.size) (vx_cwSW 3 hts gL_law_L_pass rfl rfl rfl (by decide +kernel) ⟨Nat.le_of_ble_eq_true rfl, Nat.le_of_ble_eq_true rfl⟩) (x_preW _ hw hA hG hN) rfl rfl hl.1 rfl (lv_room (Nat.le_of_ble_eq_true rfl)) dL_law_905 ⟨by show cells + 2 ≤ 601024; omega, by show slots + 12 ≤ 7293034; omega⟩) hw hA (fun H locs hw => ?_)
  refine lv_istore (lv' := [(5, .int (xcd 9 1 2 9 o)), (0, .ref b), (1, .ref (aX 0)), (2, .ref (aM 0)), (3, .ref ao), (4, .int (nI (6 * n)))]) hx hb dL_law_908 hl (by decide) rfl (fun ls hl => ?_)
  refine lv_aload_n hx hb dL_law_910 rfl (lv_at hl 3 rfl) ?_
  refine x_arg Cx hw.2.2.2 (lv_at hl 1 rfl) (lv_at hl 5 rfl) (k := 1) (by decide) (kv := 1) (by decide) dL_law_911 dL_law_912 (fun h9 => lv_iconst (v := 1) hx hb dL_law_914 (by decide) h9) dL_law_915 dL_law_916 ?_
  have hwm := xwM hw
  refine x_calli (va_runV (As := [.int (xs (6 * n + 1))]) (rest := []) ⟨hx, hb, hml, hown, hts⟩ (mX12_pass (E := xEM D aX aM cA g ao cL σX1 (xou fo o)) rfl (xs (6 * n + 1)) σM b9 σM1 hfM H.size) (cwV 1 hts gL_law_X12_pass rfl rfl rfl (by decide +kernel) ⟨Nat.le_of_ble_eq_true rfl, Nat.le_of_ble_eq_true rfl⟩) (x_preV _ hwm hA hG (cM0 rfl) rfl) rfl rfl hl.1 rfl (lv_room (Nat.le_of_ble_eq_true rfl)) dL_law_917 ⟨by show cells + 2 + 0 ≤ 601024; omega, by show slots + 12 + 0 ≤ 7293034; omega⟩) hwm hA (fun H locs hwm => ?_)
  have hw := xwX hw.1 hwm
  refine lv_istore (lv' := [(6, .int b9), (5, .int (xcd 9 1 2 9 o)), (0, .ref b), (1, .ref (aX 0)), (2, .ref (aM 0)), (3, .ref ao), (4, .int (nI (6 * n)))]) hx hb dL_law_920 hl (by decide) rfl (fun ls hl => ?_)
  refine lv_aload_n hx hb dL_law_922 rfl (lv_at hl 4 rfl) ?_
  have hwm := xwM hw
  refine x_calli (va_runV (As := []) (rest := []) ⟨hx, hb, hml, hown, hts⟩ (mX12_thrown (E := xEM D aX aM cA g ao cL σX1 (xou fo o)) rfl σM1 (σM1 0 0) σM1 (show fX12_thrown σM1 = some (σM1 0 0, σM1) from rfl) H.size) (cwV 0 hts gL_law_X12_thrown rfl rfl rfl (by decide +kernel) ⟨Nat.le_of_ble_eq_true rfl, Nat.le_of_ble_eq_true rfl⟩) (x_preV _ hwm hA hG (cM0 rfl) rfl) rfl rfl hl.1 rfl (lv_room (Nat.le_of_ble_eq_true rfl)) dL_law_923 ⟨by show cells + 2 + 0 ≤ 601024; omega, by show slots + 12 + 0 ≤ 7293034; omega⟩) hwm hA (fun H locs hwm => ?_)
  have hw := xwX hw.1 hwm
  refine lv_iload hx hb dL_law_926 (lv_at hl 1 rfl) ?_
  refine lv_icmp_eq (tgt := 933) hx hb dL_law_928 (by decide) (fun _ => ?_) (fun h9 => absurd hth h9)
  refine lv_iload hx hb dL_law_933 (lv_at hl 1 rfl) ?_
  cases o with
  | inl v =>
    · refine lv_if_ne (tgt := 950) hx hb dL_law_935 (by decide) (fun h9 => absurd rfl h9) (fun _ => ?_)
      refine lv_aload_n hx hb dL_law_938 rfl (lv_at hl 5 rfl) ?_
      refine lv_iconst (v := 0) hx hb dL_law_939 (by decide) ?_
      refine x_wlald hx hb hw dL_law_940 ?_
      refine lv_iload hx hb dL_law_941 (lv_at hl 0 rfl) ?_
      refine lv_i2l hx hb dL_law_943 rfl ?_
      refine W.lcmp hx hb dL_law_944 ?_
      refine lv_if_eq (tgt := 950) hx hb dL_law_945 (by decide) (fun _ => ?_) (fun h9 => absurd ((lg_cmp_eq _ _).mpr (by rw [ha v rfl]; rfl)) h9)
      refine lv_goto (tgt := 2908) hx hb dL_law_950 (by decide) ?_
      refine W.widen (k := cells + 20) (n := slots + 120) (by omega) (by omega) ?_
      exact kk _ _ _ hw (lv_sub hl [2, 3, 4, 5, 6] rfl)
  | inr k =>
    · refine lv_if_ne (tgt := 950) hx hb dL_law_935 (by decide) (fun _ => ?_) (fun h9 => absurd h9 (xcd_ne (by decide) (by decide) (by decide) (by decide)))
      refine lv_goto (tgt := 2908) hx hb dL_law_950 (by decide) ?_
      refine W.widen (k := cells + 20) (n := slots + 120) (by omega) (by omega) ?_
      exact kk _ _ _ hw (lv_sub hl [2, 3, 4, 5, 6] rfl)

set_option maxRecDepth 100000 in
set_option maxHeartbeats 4000000 in
theorem lawc_11 {p : Program} {l : Launch} {e : Env} {t : State} {m : MethodId} {args : Array Value} {below : List Frame} {meth : Method} {c : Code} {Q : State → Prop} {H : Heap} {locs : List Loc} {cells slots b L n : Nat} {xs : Nat → Int32} {A : Nat → Prop} {D : va_G} {aX aM : Nat → Nat} {cA cL : ClassId} {ao : Nat} {g : Nat × Nat × (Nat → Nat)} {σX σM : xSt} {fo : Nat → Int64} {ls : Array Slot} (hl0 : l.stackTraces = false) (Cx : xLC p t m args c b L n xs A g) (hw : xwW (xEX D aX aM cA g σM) ao cL A t.heap t σX fo H locs) (hl : lv_has ls 9 (xLl b (aX 0) (aM 0) ao (nI (6 * n)))) (hcs : cells + 20 ≤ 601024 ∧ slots + 120 ≤ 7293034) (v9 b9 : Int32) (σX1 σM1 : xSt) (hfX : fX11_now σX = some (v9, σX1)) (hfM : fX12_now σM = some (b9, σM1)) (heq : v9 = b9) (kk : ∀ (H : Heap) (locs : List Loc) (ls : Array Slot), xwW (xEX D aX aM cA g σM1) ao cL A t.heap t σX1 fo H locs → lv_has ls 9 (xLl b (aX 0) (aM 0) ao (nI (6 * n))) → W p l e room_1 t m args below meth c H locs (cells + 20) (slots + 120) Q (F0 m 2908 ls [])) : W p l e room_1 t m args below meth c H locs cells slots Q (F0 m 953 ls []) := by
  obtain ⟨hx, hb, hml, hown, hts, hXs, hbl, hn, hA, hbA, hG, hN⟩ := id Cx
  refine lv_aload_n hx hb dL_law_953 rfl (lv_at hl 1 rfl) ?_
  refine x_calli (va_runV (As := []) (rest := []) ⟨hx, hb, hml, hown, hts⟩ (mX11_now (E := xEO (xEX D aX aM cA g σM) ao cL fo) rfl σX v9 σX1 hfX H.size) (cwV 0 hts gL_law_X11_now rfl rfl rfl (by decide +kernel) ⟨Nat.le_of_ble_eq_true rfl, Nat.le_of_ble_eq_true rfl⟩) (x_preV _ hw.in hA hG (cX0 rfl) rfl) rfl rfl hl.1 rfl (lv_room (Nat.le_of_ble_eq_true rfl)) dL_law_954 ⟨by show cells + 0 ≤ 601024; omega, by show slots + 0 ≤ 7293034; omega⟩) hw.in hA (fun H locs hw9 => ?_)
  have hw := xwW.of hw.1 hw9
  refine lv_aload_n hx hb dL_law_957 rfl (lv_at hl 2 rfl) ?_
  have hwm := xwM hw
  refine x_calli (va_runV (As := []) (rest := [.int v9]) ⟨hx, hb, hml, hown, hts⟩ (mX12_now (E := xEM D aX aM cA g ao cL σX1 fo) rfl σM b9 σM1 hfM H.size) (cwV 0 hts gL_law_X12_now rfl rfl rfl (by decide +kernel) ⟨Nat.le_of_ble_eq_true rfl, Nat.le_of_ble_eq_true rfl⟩) (x_preV _ hwm hA hG (cM0 rfl) rfl) rfl rfl hl.1 rfl (lv_room (Nat.le_of_ble_eq_true rfl)) dL_law_958 ⟨by show cells + 0 ≤ 601024; omega, by show slots + 0 ≤ 7293034; omega⟩) hwm hA (fun H locs hwm => ?_)
  have hw := xwX hw.1 hwm
  refine lv_icmp_eq (tgt := 2908) hx hb dL_law_961 (by decide) (fun _ => ?_) (fun h9 => absurd heq h9)
  refine W.widen (k := cells + 20) (n := slots + 120) (by omega) (by omega) ?_
  exact kk _ _ _ hw (lv_sub hl [0, 1, 2, 3, 4] rfl)

set_option maxRecDepth 100000 in
set_option maxHeartbeats 4000000 in
theorem lawc_12 {p : Program} {l : Launch} {e : Env} {t : State} {m : MethodId} {args : Array Value} {below : List Frame} {meth : Method} {c : Code} {Q : State → Prop} {H : Heap} {locs : List Loc} {cells slots b L n : Nat} {xs : Nat → Int32} {A : Nat → Prop} {D : va_G} {aX aM : Nat → Nat} {cA cL : ClassId} {ao : Nat} {g : Nat × Nat × (Nat → Nat)} {σX σM : xSt} {fo : Nat → Int64} {ls : Array Slot} (hl0 : l.stackTraces = false) (Cx : xLC p t m args c b L n xs A g) (hw : xwW (xEX D aX aM cA g σM) ao cL A t.heap t σX fo H locs) (hl : lv_has ls 9 (xLl b (aX 0) (aM 0) ao (nI (6 * n)))) (hcs : cells + 20 ≤ 601024 ∧ slots + 120 ≤ 7293034) (o : xO) (b9 : Int32) (σX1 σM1 : xSt) (hfX : fX11_shape (xs (6 * n + 1)) σX = some (o, σX1)) (hk : ∀ k, o = .inr k → k = 0 ∨ k = 2) (hfM : fX12_shape (xs (6 * n + 1)) σM = some (b9, σM1)) (hth : σM1 0 0 = xcd 1 9 2 9 o) (ha : ∀ v, o = .inl v → v = b9) (kk : ∀ (H : Heap) (locs : List Loc) (ls : Array Slot), xwW (xEX D aX aM cA g σM1) ao cL A t.heap t σX1 (xou fo o) H locs → lv_has ls 9 (xLl b (aX 0) (aM 0) ao (nI (6 * n))) → W p l e room_1 t m args below meth c H locs (cells + 20) (slots + 120) Q (F0 m 2908 ls [])) : W p l e room_1 t m args below meth c H locs cells slots Q (F0 m 966 ls []) := by
  obtain ⟨hx, hb, hml, hown, hts, hXs, hbl, hn, hA, hbA, hG, hN⟩ := id Cx
  refine lv_aload_n hx hb dL_law_966 rfl (lv_at hl 1 rfl) ?_
  refine x_arg Cx hw.2.2.2 (lv_at hl 0 rfl) (lv_at hl 4 rfl) (k := 1) (by decide) (kv := 1) (by decide) dL_law_967 dL_law_968 (fun h9 => lv_iconst (v := 1) hx hb dL_law_970 (by decide) h9) dL_law_971 dL_law_972 ?_
  refine lv_aload_n hx hb dL_law_973 rfl (lv_at hl 3 rfl) ?_
  refine x_wcalli (vx_runSX (hh := [(0, 9, 12, 13), (0, 9, 15, 17)]) (As := [.ref (aX 0), .int (xs (6 * n + 1)), .ref ao]) (rest := []) ⟨hx, hb, hml, hown, hts⟩ (mL_shape hl0 (E := xEX D aX aM cA g σM) rfl ao cL (xs (6 * n + 1)) σX fo o σX1 hfX hk H.size) (vx_cwSW 3 hts gL_law_L_shape rfl rfl rfl (by decide +kernel) ⟨Nat.le_of_ble_eq_true rfl, Nat.le_of_ble_eq_true rfl⟩) (x_preW _ hw hA hG hN) rfl rfl hl.1 rfl (lv_room (Nat.le_of_ble_eq_true rfl)) dL_law_974 ⟨by show cells + 2 ≤ 601024; omega, by show slots + 12 ≤ 7293034; omega⟩) hw hA (fun H locs hw => ?_)
  refine lv_istore (lv' := [(5, .int (xcd 1 9 2 9 o)), (0, .ref b), (1, .ref (aX 0)), (2, .ref (aM 0)), (3, .ref ao), (4, .int (nI (6 * n)))]) hx hb dL_law_977 hl (by decide) rfl (fun ls hl => ?_)
  refine lv_aload_n hx hb dL_law_979 rfl (lv_at hl 3 rfl) ?_
  refine x_arg Cx hw.2.2.2 (lv_at hl 1 rfl) (lv_at hl 5 rfl) (k := 1) (by decide) (kv := 1) (by decide) dL_law_980 dL_law_981 (fun h9 => lv_iconst (v := 1) hx hb dL_law_983 (by decide) h9) dL_law_984 dL_law_985 ?_
  have hwm := xwM hw
  refine x_calli (va_runV (As := [.int (xs (6 * n + 1))]) (rest := []) ⟨hx, hb, hml, hown, hts⟩ (mX12_shape (E := xEM D aX aM cA g ao cL σX1 (xou fo o)) rfl (xs (6 * n + 1)) σM b9 σM1 hfM H.size) (cwV 1 hts gL_law_X12_shape rfl rfl rfl (by decide +kernel) ⟨Nat.le_of_ble_eq_true rfl, Nat.le_of_ble_eq_true rfl⟩) (x_preV _ hwm hA hG (cM0 rfl) rfl) rfl rfl hl.1 rfl (lv_room (Nat.le_of_ble_eq_true rfl)) dL_law_986 ⟨by show cells + 2 + 0 ≤ 601024; omega, by show slots + 12 + 0 ≤ 7293034; omega⟩) hwm hA (fun H locs hwm => ?_)
  have hw := xwX hw.1 hwm
  refine lv_istore (lv' := [(6, .int b9), (5, .int (xcd 1 9 2 9 o)), (0, .ref b), (1, .ref (aX 0)), (2, .ref (aM 0)), (3, .ref ao), (4, .int (nI (6 * n)))]) hx hb dL_law_989 hl (by decide) rfl (fun ls hl => ?_)
  refine lv_aload_n hx hb dL_law_991 rfl (lv_at hl 4 rfl) ?_
  have hwm := xwM hw
  refine x_calli (va_runV (As := []) (rest := []) ⟨hx, hb, hml, hown, hts⟩ (mX12_thrown (E := xEM D aX aM cA g ao cL σX1 (xou fo o)) rfl σM1 (σM1 0 0) σM1 (show fX12_thrown σM1 = some (σM1 0 0, σM1) from rfl) H.size) (cwV 0 hts gL_law_X12_thrown rfl rfl rfl (by decide +kernel) ⟨Nat.le_of_ble_eq_true rfl, Nat.le_of_ble_eq_true rfl⟩) (x_preV _ hwm hA hG (cM0 rfl) rfl) rfl rfl hl.1 rfl (lv_room (Nat.le_of_ble_eq_true rfl)) dL_law_992 ⟨by show cells + 2 + 0 ≤ 601024; omega, by show slots + 12 + 0 ≤ 7293034; omega⟩) hwm hA (fun H locs hwm => ?_)
  have hw := xwX hw.1 hwm
  refine lv_iload hx hb dL_law_995 (lv_at hl 1 rfl) ?_
  refine lv_icmp_eq (tgt := 1002) hx hb dL_law_997 (by decide) (fun _ => ?_) (fun h9 => absurd hth h9)
  refine lv_iload hx hb dL_law_1002 (lv_at hl 1 rfl) ?_
  cases o with
  | inl v =>
    · refine lv_if_ne (tgt := 1019) hx hb dL_law_1004 (by decide) (fun h9 => absurd rfl h9) (fun _ => ?_)
      refine lv_aload_n hx hb dL_law_1007 rfl (lv_at hl 5 rfl) ?_
      refine lv_iconst (v := 0) hx hb dL_law_1008 (by decide) ?_
      refine x_wlald hx hb hw dL_law_1009 ?_
      refine lv_iload hx hb dL_law_1010 (lv_at hl 0 rfl) ?_
      refine lv_i2l hx hb dL_law_1012 rfl ?_
      refine W.lcmp hx hb dL_law_1013 ?_
      refine lv_if_eq (tgt := 1019) hx hb dL_law_1014 (by decide) (fun _ => ?_) (fun h9 => absurd ((lg_cmp_eq _ _).mpr (by rw [ha v rfl]; rfl)) h9)
      refine lv_goto (tgt := 2908) hx hb dL_law_1019 (by decide) ?_
      refine W.widen (k := cells + 20) (n := slots + 120) (by omega) (by omega) ?_
      exact kk _ _ _ hw (lv_sub hl [2, 3, 4, 5, 6] rfl)
  | inr k =>
    · refine lv_if_ne (tgt := 1019) hx hb dL_law_1004 (by decide) (fun _ => ?_) (fun h9 => absurd h9 (xcd_ne (by decide) (by decide) (by decide) (by decide)))
      refine lv_goto (tgt := 2908) hx hb dL_law_1019 (by decide) ?_
      refine W.widen (k := cells + 20) (n := slots + 120) (by omega) (by omega) ?_
      exact kk _ _ _ hw (lv_sub hl [2, 3, 4, 5, 6] rfl)

set_option maxRecDepth 100000 in
set_option maxHeartbeats 4000000 in
theorem lawc_13 {p : Program} {l : Launch} {e : Env} {t : State} {m : MethodId} {args : Array Value} {below : List Frame} {meth : Method} {c : Code} {Q : State → Prop} {H : Heap} {locs : List Loc} {cells slots b L n : Nat} {xs : Nat → Int32} {A : Nat → Prop} {D : va_G} {aX aM : Nat → Nat} {cA cL : ClassId} {ao : Nat} {g : Nat × Nat × (Nat → Nat)} {σX σM : xSt} {fo : Nat → Int64} {ls : Array Slot} (hl0 : l.stackTraces = false) (Cx : xLC p t m args c b L n xs A g) (hw : xwW (xEX D aX aM cA g σM) ao cL A t.heap t σX fo H locs) (hl : lv_has ls 9 (xLl b (aX 0) (aM 0) ao (nI (6 * n)))) (hcs : cells + 20 ≤ 601024 ∧ slots + 120 ≤ 7293034) (o : xO) (b9 : Int32) (σX1 σM1 : xSt) (hfX : fX11_doughAt (xs (6 * n + 1)) (xs (6 * n + 2)) σX = some (o, σX1)) (hk : ∀ k, o = .inr k → k = 0 ∨ k = 1) (hfM : fX12_doughAt (xs (6 * n + 1)) (xs (6 * n + 2)) σM = some (b9, σM1)) (hth : σM1 0 0 = xcd 1 2 9 9 o) (ha : ∀ v, o = .inl v → v = b9) (kk : ∀ (H : Heap) (locs : List Loc) (ls : Array Slot), xwW (xEX D aX aM cA g σM1) ao cL A t.heap t σX1 (xou fo o) H locs → lv_has ls 9 (xLl b (aX 0) (aM 0) ao (nI (6 * n))) → W p l e room_1 t m args below meth c H locs (cells + 20) (slots + 120) Q (F0 m 2908 ls [])) : W p l e room_1 t m args below meth c H locs cells slots Q (F0 m 1022 ls []) := by
  obtain ⟨hx, hb, hml, hown, hts, hXs, hbl, hn, hA, hbA, hG, hN⟩ := id Cx
  refine lv_aload_n hx hb dL_law_1022 rfl (lv_at hl 1 rfl) ?_
  refine x_arg Cx hw.2.2.2 (lv_at hl 0 rfl) (lv_at hl 4 rfl) (k := 1) (by decide) (kv := 1) (by decide) dL_law_1023 dL_law_1024 (fun h9 => lv_iconst (v := 1) hx hb dL_law_1026 (by decide) h9) dL_law_1027 dL_law_1028 ?_
  refine x_arg Cx hw.2.2.2 (lv_at hl 0 rfl) (lv_at hl 4 rfl) (k := 2) (by decide) (kv := 2) (by decide) dL_law_1029 dL_law_1030 (fun h9 => lv_iconst (v := 2) hx hb dL_law_1032 (by decide) h9) dL_law_1033 dL_law_1034 ?_
  refine lv_aload_n hx hb dL_law_1035 rfl (lv_at hl 3 rfl) ?_
  refine x_wcalli (vx_runSX (hh := [(0, 10, 13, 13), (0, 10, 17, 15)]) (As := [.ref (aX 0), .int (xs (6 * n + 1)), .int (xs (6 * n + 2)), .ref ao]) (rest := []) ⟨hx, hb, hml, hown, hts⟩ (mL_doughAt hl0 (E := xEX D aX aM cA g σM) rfl ao cL (xs (6 * n + 1)) (xs (6 * n + 2)) σX fo o σX1 hfX hk H.size) (vx_cwSW 4 hts gL_law_L_doughAt rfl rfl rfl (by decide +kernel) ⟨Nat.le_of_ble_eq_true rfl, Nat.le_of_ble_eq_true rfl⟩) (x_preW _ hw hA hG hN) rfl rfl hl.1 rfl (lv_room (Nat.le_of_ble_eq_true rfl)) dL_law_1036 ⟨by show cells + 2 ≤ 601024; omega, by show slots + 12 ≤ 7293034; omega⟩) hw hA (fun H locs hw => ?_)
  refine lv_istore (lv' := [(5, .int (xcd 1 2 9 9 o)), (0, .ref b), (1, .ref (aX 0)), (2, .ref (aM 0)), (3, .ref ao), (4, .int (nI (6 * n)))]) hx hb dL_law_1039 hl (by decide) rfl (fun ls hl => ?_)
  refine lv_aload_n hx hb dL_law_1041 rfl (lv_at hl 3 rfl) ?_
  refine x_arg Cx hw.2.2.2 (lv_at hl 1 rfl) (lv_at hl 5 rfl) (k := 1) (by decide) (kv := 1) (by decide) dL_law_1042 dL_law_1043 (fun h9 => lv_iconst (v := 1) hx hb dL_law_1045 (by decide) h9) dL_law_1046 dL_law_1047 ?_
  refine x_arg Cx hw.2.2.2 (lv_at hl 1 rfl) (lv_at hl 5 rfl) (k := 2) (by decide) (kv := 2) (by decide) dL_law_1048 dL_law_1049 (fun h9 => lv_iconst (v := 2) hx hb dL_law_1051 (by decide) h9) dL_law_1052 dL_law_1053 ?_
  have hwm := xwM hw
  refine x_calli (va_runV (As := [.int (xs (6 * n + 1)), .int (xs (6 * n + 2))]) (rest := []) ⟨hx, hb, hml, hown, hts⟩ (mX12_doughAt (E := xEM D aX aM cA g ao cL σX1 (xou fo o)) rfl (xs (6 * n + 1)) (xs (6 * n + 2)) σM b9 σM1 hfM H.size) (cwV 2 hts gL_law_X12_doughAt rfl rfl rfl (by decide +kernel) ⟨Nat.le_of_ble_eq_true rfl, Nat.le_of_ble_eq_true rfl⟩) (x_preV _ hwm hA hG (cM0 rfl) rfl) rfl rfl hl.1 rfl (lv_room (Nat.le_of_ble_eq_true rfl)) dL_law_1054 ⟨by show cells + 2 + 0 ≤ 601024; omega, by show slots + 12 + 0 ≤ 7293034; omega⟩) hwm hA (fun H locs hwm => ?_)
  have hw := xwX hw.1 hwm
  refine lv_istore (lv' := [(6, .int b9), (5, .int (xcd 1 2 9 9 o)), (0, .ref b), (1, .ref (aX 0)), (2, .ref (aM 0)), (3, .ref ao), (4, .int (nI (6 * n)))]) hx hb dL_law_1057 hl (by decide) rfl (fun ls hl => ?_)
  refine lv_aload_n hx hb dL_law_1059 rfl (lv_at hl 4 rfl) ?_
  have hwm := xwM hw
  refine x_calli (va_runV (As := []) (rest := []) ⟨hx, hb, hml, hown, hts⟩ (mX12_thrown (E := xEM D aX aM cA g ao cL σX1 (xou fo o)) rfl σM1 (σM1 0 0) σM1 (show fX12_thrown σM1 = some (σM1 0 0, σM1) from rfl) H.size) (cwV 0 hts gL_law_X12_thrown rfl rfl rfl (by decide +kernel) ⟨Nat.le_of_ble_eq_true rfl, Nat.le_of_ble_eq_true rfl⟩) (x_preV _ hwm hA hG (cM0 rfl) rfl) rfl rfl hl.1 rfl (lv_room (Nat.le_of_ble_eq_true rfl)) dL_law_1060 ⟨by show cells + 2 + 0 ≤ 601024; omega, by show slots + 12 + 0 ≤ 7293034; omega⟩) hwm hA (fun H locs hwm => ?_)
  have hw := xwX hw.1 hwm
  refine lv_iload hx hb dL_law_1063 (lv_at hl 1 rfl) ?_
  refine lv_icmp_eq (tgt := 1070) hx hb dL_law_1065 (by decide) (fun _ => ?_) (fun h9 => absurd hth h9)
  refine lv_iload hx hb dL_law_1070 (lv_at hl 1 rfl) ?_
  cases o with
  | inl v =>
    · refine lv_if_ne (tgt := 1087) hx hb dL_law_1072 (by decide) (fun h9 => absurd rfl h9) (fun _ => ?_)
      refine lv_aload_n hx hb dL_law_1075 rfl (lv_at hl 5 rfl) ?_
      refine lv_iconst (v := 0) hx hb dL_law_1076 (by decide) ?_
      refine x_wlald hx hb hw dL_law_1077 ?_
      refine lv_iload hx hb dL_law_1078 (lv_at hl 0 rfl) ?_
      refine lv_i2l hx hb dL_law_1080 rfl ?_
      refine W.lcmp hx hb dL_law_1081 ?_
      refine lv_if_eq (tgt := 1087) hx hb dL_law_1082 (by decide) (fun _ => ?_) (fun h9 => absurd ((lg_cmp_eq _ _).mpr (by rw [ha v rfl]; rfl)) h9)
      refine lv_goto (tgt := 2908) hx hb dL_law_1087 (by decide) ?_
      refine W.widen (k := cells + 20) (n := slots + 120) (by omega) (by omega) ?_
      exact kk _ _ _ hw (lv_sub hl [2, 3, 4, 5, 6] rfl)
  | inr k =>
    · refine lv_if_ne (tgt := 1087) hx hb dL_law_1072 (by decide) (fun _ => ?_) (fun h9 => absurd h9 (xcd_ne (by decide) (by decide) (by decide) (by decide)))
      refine lv_goto (tgt := 2908) hx hb dL_law_1087 (by decide) ?_
      refine W.widen (k := cells + 20) (n := slots + 120) (by omega) (by omega) ?_
      exact kk _ _ _ hw (lv_sub hl [2, 3, 4, 5, 6] rfl)

set_option maxRecDepth 100000 in
set_option maxHeartbeats 4000000 in
theorem lawc_14 {p : Program} {l : Launch} {e : Env} {t : State} {m : MethodId} {args : Array Value} {below : List Frame} {meth : Method} {c : Code} {Q : State → Prop} {H : Heap} {locs : List Loc} {cells slots b L n : Nat} {xs : Nat → Int32} {A : Nat → Prop} {D : va_G} {aX aM : Nat → Nat} {cA cL : ClassId} {ao : Nat} {g : Nat × Nat × (Nat → Nat)} {σX σM : xSt} {fo : Nat → Int64} {ls : Array Slot} (hl0 : l.stackTraces = false) (Cx : xLC p t m args c b L n xs A g) (hw : xwW (xEX D aX aM cA g σM) ao cL A t.heap t σX fo H locs) (hl : lv_has ls 9 (xLl b (aX 0) (aM 0) ao (nI (6 * n)))) (hcs : cells + 20 ≤ 601024 ∧ slots + 120 ≤ 7293034) (o : xO) (b9 : Int32) (σX1 σM1 : xSt) (hfX : fX11_throwAway (xs (6 * n + 1)) σX = some (o, σX1)) (hk : ∀ k, o = .inr k → k = 0 ∨ k = 2) (hfM : fX12_throwAway (xs (6 * n + 1)) σM = some (b9, σM1)) (hth : σM1 0 0 = xcd 1 9 2 9 o) (ha : ∀ v, o = .inl v → v = b9) (kk : ∀ (H : Heap) (locs : List Loc) (ls : Array Slot), xwW (xEX D aX aM cA g σM1) ao cL A t.heap t σX1 (xou fo o) H locs → lv_has ls 9 (xLl b (aX 0) (aM 0) ao (nI (6 * n))) → W p l e room_1 t m args below meth c H locs (cells + 20) (slots + 120) Q (F0 m 2908 ls [])) : W p l e room_1 t m args below meth c H locs cells slots Q (F0 m 1090 ls []) := by
  obtain ⟨hx, hb, hml, hown, hts, hXs, hbl, hn, hA, hbA, hG, hN⟩ := id Cx
  refine lv_aload_n hx hb dL_law_1090 rfl (lv_at hl 1 rfl) ?_
  refine x_arg Cx hw.2.2.2 (lv_at hl 0 rfl) (lv_at hl 4 rfl) (k := 1) (by decide) (kv := 1) (by decide) dL_law_1091 dL_law_1092 (fun h9 => lv_iconst (v := 1) hx hb dL_law_1094 (by decide) h9) dL_law_1095 dL_law_1096 ?_
  refine lv_aload_n hx hb dL_law_1097 rfl (lv_at hl 3 rfl) ?_
  refine x_wcalli (vx_runSX (hh := [(0, 9, 12, 13), (0, 9, 15, 17)]) (As := [.ref (aX 0), .int (xs (6 * n + 1)), .ref ao]) (rest := []) ⟨hx, hb, hml, hown, hts⟩ (mL_throwAway hl0 (E := xEX D aX aM cA g σM) rfl ao cL (xs (6 * n + 1)) σX fo o σX1 hfX hk H.size) (vx_cwSW 3 hts gL_law_L_throwAway rfl rfl rfl (by decide +kernel) ⟨Nat.le_of_ble_eq_true rfl, Nat.le_of_ble_eq_true rfl⟩) (x_preW _ hw hA hG hN) rfl rfl hl.1 rfl (lv_room (Nat.le_of_ble_eq_true rfl)) dL_law_1098 ⟨by show cells + 2 ≤ 601024; omega, by show slots + 12 ≤ 7293034; omega⟩) hw hA (fun H locs hw => ?_)
  refine lv_istore (lv' := [(5, .int (xcd 1 9 2 9 o)), (0, .ref b), (1, .ref (aX 0)), (2, .ref (aM 0)), (3, .ref ao), (4, .int (nI (6 * n)))]) hx hb dL_law_1101 hl (by decide) rfl (fun ls hl => ?_)
  refine lv_aload_n hx hb dL_law_1103 rfl (lv_at hl 3 rfl) ?_
  refine x_arg Cx hw.2.2.2 (lv_at hl 1 rfl) (lv_at hl 5 rfl) (k := 1) (by decide) (kv := 1) (by decide) dL_law_1104 dL_law_1105 (fun h9 => lv_iconst (v := 1) hx hb dL_law_1107 (by decide) h9) dL_law_1108 dL_law_1109 ?_
  have hwm := xwM hw
  refine x_calli (va_runV (As := [.int (xs (6 * n + 1))]) (rest := []) ⟨hx, hb, hml, hown, hts⟩ (mX12_throwAway (E := xEM D aX aM cA g ao cL σX1 (xou fo o)) rfl (xs (6 * n + 1)) σM b9 σM1 hfM H.size) (cwV 1 hts gL_law_X12_throwAway rfl rfl rfl (by decide +kernel) ⟨Nat.le_of_ble_eq_true rfl, Nat.le_of_ble_eq_true rfl⟩) (x_preV _ hwm hA hG (cM0 rfl) rfl) rfl rfl hl.1 rfl (lv_room (Nat.le_of_ble_eq_true rfl)) dL_law_1110 ⟨by show cells + 2 + 0 ≤ 601024; omega, by show slots + 12 + 0 ≤ 7293034; omega⟩) hwm hA (fun H locs hwm => ?_)
  have hw := xwX hw.1 hwm
  refine lv_istore (lv' := [(6, .int b9), (5, .int (xcd 1 9 2 9 o)), (0, .ref b), (1, .ref (aX 0)), (2, .ref (aM 0)), (3, .ref ao), (4, .int (nI (6 * n)))]) hx hb dL_law_1113 hl (by decide) rfl (fun ls hl => ?_)
  refine lv_aload_n hx hb dL_law_1115 rfl (lv_at hl 4 rfl) ?_
  have hwm := xwM hw
  refine x_calli (va_runV (As := []) (rest := []) ⟨hx, hb, hml, hown, hts⟩ (mX12_thrown (E := xEM D aX aM cA g ao cL σX1 (xou fo o)) rfl σM1 (σM1 0 0) σM1 (show fX12_thrown σM1 = some (σM1 0 0, σM1) from rfl) H.size) (cwV 0 hts gL_law_X12_thrown rfl rfl rfl (by decide +kernel) ⟨Nat.le_of_ble_eq_true rfl, Nat.le_of_ble_eq_true rfl⟩) (x_preV _ hwm hA hG (cM0 rfl) rfl) rfl rfl hl.1 rfl (lv_room (Nat.le_of_ble_eq_true rfl)) dL_law_1116 ⟨by show cells + 2 + 0 ≤ 601024; omega, by show slots + 12 + 0 ≤ 7293034; omega⟩) hwm hA (fun H locs hwm => ?_)
  have hw := xwX hw.1 hwm
  refine lv_iload hx hb dL_law_1119 (lv_at hl 1 rfl) ?_
  refine lv_icmp_eq (tgt := 1126) hx hb dL_law_1121 (by decide) (fun _ => ?_) (fun h9 => absurd hth h9)
  refine lv_iload hx hb dL_law_1126 (lv_at hl 1 rfl) ?_
  cases o with
  | inl v =>
    · refine lv_if_ne (tgt := 1143) hx hb dL_law_1128 (by decide) (fun h9 => absurd rfl h9) (fun _ => ?_)
      refine lv_aload_n hx hb dL_law_1131 rfl (lv_at hl 5 rfl) ?_
      refine lv_iconst (v := 0) hx hb dL_law_1132 (by decide) ?_
      refine x_wlald hx hb hw dL_law_1133 ?_
      refine lv_iload hx hb dL_law_1134 (lv_at hl 0 rfl) ?_
      refine lv_i2l hx hb dL_law_1136 rfl ?_
      refine W.lcmp hx hb dL_law_1137 ?_
      refine lv_if_eq (tgt := 1143) hx hb dL_law_1138 (by decide) (fun _ => ?_) (fun h9 => absurd ((lg_cmp_eq _ _).mpr (by rw [ha v rfl]; rfl)) h9)
      refine lv_goto (tgt := 2908) hx hb dL_law_1143 (by decide) ?_
      refine W.widen (k := cells + 20) (n := slots + 120) (by omega) (by omega) ?_
      exact kk _ _ _ hw (lv_sub hl [2, 3, 4, 5, 6] rfl)
  | inr k =>
    · refine lv_if_ne (tgt := 1143) hx hb dL_law_1128 (by decide) (fun _ => ?_) (fun h9 => absurd h9 (xcd_ne (by decide) (by decide) (by decide) (by decide)))
      refine lv_goto (tgt := 2908) hx hb dL_law_1143 (by decide) ?_
      refine W.widen (k := cells + 20) (n := slots + 120) (by omega) (by omega) ?_
      exact kk _ _ _ hw (lv_sub hl [2, 3, 4, 5, 6] rfl)

set_option maxRecDepth 100000 in
set_option maxHeartbeats 4000000 in
theorem lawc_15 {p : Program} {l : Launch} {e : Env} {t : State} {m : MethodId} {args : Array Value} {below : List Frame} {meth : Method} {c : Code} {Q : State → Prop} {H : Heap} {locs : List Loc} {cells slots b L n : Nat} {xs : Nat → Int32} {A : Nat → Prop} {D : va_G} {aX aM : Nat → Nat} {cA cL : ClassId} {ao : Nat} {g : Nat × Nat × (Nat → Nat)} {σX σM : xSt} {fo : Nat → Int64} {ls : Array Slot} (hl0 : l.stackTraces = false) (Cx : xLC p t m args c b L n xs A g) (hw : xwW (xEX D aX aM cA g σM) ao cL A t.heap t σX fo H locs) (hl : lv_has ls 9 (xLl b (aX 0) (aM 0) ao (nI (6 * n)))) (hcs : cells + 20 ≤ 601024 ∧ slots + 120 ≤ 7293034) (v9 b9 : Int32) (σX1 σM1 : xSt) (hfX : fX11_doughCount σX = some (v9, σX1)) (hfM : fX12_doughCount σM = some (b9, σM1)) (heq : v9 = b9) (kk : ∀ (H : Heap) (locs : List Loc) (ls : Array Slot), xwW (xEX D aX aM cA g σM1) ao cL A t.heap t σX1 fo H locs → lv_has ls 9 (xLl b (aX 0) (aM 0) ao (nI (6 * n))) → W p l e room_1 t m args below meth c H locs (cells + 20) (slots + 120) Q (F0 m 2908 ls [])) : W p l e room_1 t m args below meth c H locs cells slots Q (F0 m 1146 ls []) := by
  obtain ⟨hx, hb, hml, hown, hts, hXs, hbl, hn, hA, hbA, hG, hN⟩ := id Cx
  refine lv_aload_n hx hb dL_law_1146 rfl (lv_at hl 1 rfl) ?_
  refine x_calli (va_runV (As := []) (rest := []) ⟨hx, hb, hml, hown, hts⟩ (mX11_doughCount (E := xEO (xEX D aX aM cA g σM) ao cL fo) rfl σX v9 σX1 hfX H.size) (cwV 0 hts gL_law_X11_doughCount rfl rfl rfl (by decide +kernel) ⟨Nat.le_of_ble_eq_true rfl, Nat.le_of_ble_eq_true rfl⟩) (x_preV _ hw.in hA hG (cX0 rfl) rfl) rfl rfl hl.1 rfl (lv_room (Nat.le_of_ble_eq_true rfl)) dL_law_1147 ⟨by show cells + 0 ≤ 601024; omega, by show slots + 0 ≤ 7293034; omega⟩) hw.in hA (fun H locs hw9 => ?_)
  have hw := xwW.of hw.1 hw9
  refine lv_aload_n hx hb dL_law_1150 rfl (lv_at hl 2 rfl) ?_
  have hwm := xwM hw
  refine x_calli (va_runV (As := []) (rest := [.int v9]) ⟨hx, hb, hml, hown, hts⟩ (mX12_doughCount (E := xEM D aX aM cA g ao cL σX1 fo) rfl σM b9 σM1 hfM H.size) (cwV 0 hts gL_law_X12_doughCount rfl rfl rfl (by decide +kernel) ⟨Nat.le_of_ble_eq_true rfl, Nat.le_of_ble_eq_true rfl⟩) (x_preV _ hwm hA hG (cM0 rfl) rfl) rfl rfl hl.1 rfl (lv_room (Nat.le_of_ble_eq_true rfl)) dL_law_1151 ⟨by show cells + 0 ≤ 601024; omega, by show slots + 0 ≤ 7293034; omega⟩) hwm hA (fun H locs hwm => ?_)
  have hw := xwX hw.1 hwm
  refine lv_icmp_eq (tgt := 2908) hx hb dL_law_1154 (by decide) (fun _ => ?_) (fun h9 => absurd heq h9)
  refine W.widen (k := cells + 20) (n := slots + 120) (by omega) (by omega) ?_
  exact kk _ _ _ hw (lv_sub hl [0, 1, 2, 3, 4] rfl)
