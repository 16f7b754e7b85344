abbrev rmL_breads : Room := { frames := 9, cells := 2, slots := 12, locals := 153 }
set_option maxRecDepth 100000 in
set_option maxHeartbeats 4000000 in
theorem mL_breads {l : Launch} (hl0 : l.stackTraces = false) {E : xE} (hE : E.sh = shX) (ao : Nat) (cL : ClassId) (p1 : Int32) (p2 : Int32) (σ : xSt) (fo : Nat → Int64) (o : xO) (σ1 : xSt) (hf : fX11_breads p1 p2 σ = some (o, σ1)) (hk : ∀ k, o = .inr k → k = 0 ∨ k = 1) : xMw l yL_breads wsL_breads rmL_breads E ao cL [.ref (E.a 0), .int p1, .int p2, .ref ao] σ fo (xcd 1 2 9 9 o) σ1 (xou fo o) 2 := by
  refine xMw_of (cc := cL_breads) (maxL := 5) (ret := some .int) (by decide) rfl (Nat.le_of_ble_eq_true rfl) ?_
  intro p e s m args below meth c A ls ⟨hx, hb, hr, hml, hown, hts, hlk⟩ hA hG hN htab hw hl
  have hown : s.vm.findClass RL = some m.cls := hown
  have hl : lv_has ls 5 [(0, .ref (E.a 0)), (1, .int p1), (2, .int p2), (3, .ref ao)] := hl
  refine lv_aload_n hx hb dL_breads_0 rfl (lv_at hl 3 rfl) ?_
  refine lv_iconst (v := 0) hx hb dL_breads_1 (by decide) ?_
  refine lv_aload_n hx hb dL_breads_2 rfl (lv_at hl 0 rfl) ?_
  refine lv_iload_n hx hb dL_breads_3 rfl (lv_at hl 1 rfl) ?_
  refine lv_iload_n hx hb dL_breads_4 rfl (lv_at hl 2 rfl) ?_
  cases o with
  | inl v =>
    refine x_tcalli (vx_runV (As := [.int p1, .int p2]) (rest := [.int 0, .ref ao]) ⟨hx, hb, hml, hown, hts⟩ (mX11_breads hl0 (E := xEO E ao cL fo) hE p1 p2 σ (.inl v) σ1 hf s.heap.size) (cwV 2 hts gL_breads_X11_breads rfl rfl rfl (by decide +kernel) ⟨Nat.le_of_ble_eq_true rfl, Nat.le_of_ble_eq_true rfl⟩) (x_preV _ hw.in hA hG (cX0 hE) rfl) rfl rfl hl.1 rfl (lv_room (Nat.le_of_ble_eq_true rfl)) dL_breads_5 ⟨Nat.le_of_ble_eq_true rfl, Nat.le_of_ble_eq_true rfl⟩) hw.in hA (fun q9 ce H locs h1 h2 h3 hw => by obtain ⟨_, h9, _⟩ := h3; cases h9) (fun r9 H locs h1 hw9 => ?_)
    obtain rfl := Sum.inl.inj h1
    have hw := xwW.of hw.1 hw9
    refine lv_i2l hx hb dL_breads_8 rfl ?_
    refine x_wlast hx hb hw dL_breads_9 (fun H locs hw => ?_)
    refine lv_goto (tgt := 21) hx hb dL_breads_10 (by decide) ?_
    refine lv_iconst (v := 0) hx hb dL_breads_21 (by decide) ?_
    exact x_wiret hx hb hr hlk hw rfl (Nat.le_of_ble_eq_true rfl) (Nat.le_of_ble_eq_true rfl) dL_breads_22
  | inr k =>
    obtain ⟨x1, x2, het, e1, e2⟩ := x_t2 htab
    simp only [Prod.mk.injEq] at e1 e2
    rcases hk k rfl with rfl | rfl
    · refine x_tcalli (vx_runV (As := [.int p1, .int p2]) (rest := [.int 0, .ref ao]) ⟨hx, hb, hml, hown, hts⟩ (mX11_breads hl0 (E := xEO E ao cL fo) hE p1 p2 σ (.inr 0) σ1 hf s.heap.size) (cwV 2 hts gL_breads_X11_breads rfl rfl rfl (by decide +kernel) ⟨Nat.le_of_ble_eq_true rfl, Nat.le_of_ble_eq_true rfl⟩) (x_preV _ hw.in hA hG (cX0 hE) rfl) rfl rfl hl.1 rfl (lv_room (Nat.le_of_ble_eq_true rfl)) dL_breads_5 ⟨Nat.le_of_ble_eq_true rfl, Nat.le_of_ble_eq_true rfl⟩) hw.in hA (fun q9 ce H locs h1 h2 h3 hw9 => ?_) (fun r9 H locs h1 hw9 => nomatch h1)
      have hw := xwW.of hw.1 hw9
      obtain ⟨k9, h9, h3⟩ := h3
      obtain rfl := Sum.inr.inj h9
      refine vx_catch (E := xcls 0) (name := xcls 0) hown [] x1 [x2] (by rw [het]; rfl) (fun z hz => by cases hz) (by rw [covers, e1.1, e1.2.1]; decide) (by rw [e1.2.2.2]; decide) (by rw [e1.2.2.2]; exact hts (.classLink RL 13 "java/lang/IndexOutOfBoundsException") (by decide +kernel)) (va_Nw.use (by decide +kernel) (hG.1 (.castable "java/lang/IndexOutOfBoundsException" "java/lang/IndexOutOfBoundsException") (by decide +kernel))) h1 h2 h3 ?_
      rw [e1.2.2.1]
      refine lv_astore (lv' := [(4, .ref q9), (0, .ref (E.a 0)), (1, .int p1), (2, .int p2), (3, .ref ao)]) hx hb dL_breads_13 hl (by decide) rfl (fun ls hl => ?_)
      refine lv_iconst (v := 1) hx hb dL_breads_15 (by decide) ?_
      exact x_wiret hx hb hr hlk hw rfl (Nat.le_of_ble_eq_true rfl) (Nat.le_of_ble_eq_true rfl) dL_breads_16
    · refine x_tcalli (vx_runV (As := [.int p1, .int p2]) (rest := [.int 0, .ref ao]) ⟨hx, hb, hml, hown, hts⟩ (mX11_breads hl0 (E := xEO E ao cL fo) hE p1 p2 σ (.inr 1) σ1 hf s.heap.size) (cwV 2 hts gL_breads_X11_breads rfl rfl rfl (by decide +kernel) ⟨Nat.le_of_ble_eq_true rfl, Nat.le_of_ble_eq_true rfl⟩) (x_preV _ hw.in hA hG (cX0 hE) rfl) rfl rfl hl.1 rfl (lv_room (Nat.le_of_ble_eq_true rfl)) dL_breads_5 ⟨Nat.le_of_ble_eq_true rfl, Nat.le_of_ble_eq_true rfl⟩) hw.in hA (fun q9 ce H locs h1 h2 h3 hw9 => ?_) (fun r9 H locs h1 hw9 => nomatch h1)
      have hw := xwW.of hw.1 hw9
      obtain ⟨k9, h9, h3⟩ := h3
      obtain rfl := Sum.inr.inj h9
      refine vx_catch (E := xcls 1) (name := xcls 1) hown [x1] x2 [] (by rw [het]; rfl) (fun z hz => by simp only [List.mem_cons, List.not_mem_nil, or_false] at hz; subst hz; exact Or.inr ⟨by rw [e1.2.2.2]; decide, xcls 0, by rw [e1.2.2.2]; exact hts (.classLink RL 13 "java/lang/IndexOutOfBoundsException") (by decide +kernel), hN 1 (by decide) 0 (by decide) (by decide)⟩) (by rw [covers, e2.1, e2.2.1]; decide) (by rw [e2.2.2.2]; decide) (by rw [e2.2.2.2]; exact hts (.classLink RL 15 "java/lang/IllegalArgumentException") (by decide +kernel)) (va_Nw.use (by decide +kernel) (hG.1 (.castable "java/lang/IllegalArgumentException" "java/lang/IllegalArgumentException") (by decide +kernel))) h1 h2 h3 ?_
      rw [e2.2.2.1]
      refine lv_astore (lv' := [(4, .ref q9), (0, .ref (E.a 0)), (1, .int p1), (2, .int p2), (3, .ref ao)]) hx hb dL_breads_17 hl (by decide) rfl (fun ls hl => ?_)
      refine lv_iconst (v := 2) hx hb dL_breads_19 (by decide) ?_
      exact x_wiret hx hb hr hlk hw rfl (Nat.le_of_ble_eq_true rfl) (Nat.le_of_ble_eq_true rfl) dL_breads_20

abbrev rmL_sell : Room := { frames := 9, cells := 3, slots := 18, locals := 161 }
set_option maxRecDepth 100000 in
set_option maxHeartbeats 4000000 in
theorem mL_sell {l : Launch} (hl0 : l.stackTraces = false) {E : xE} (hE : E.sh = shX) (ao : Nat) (cL : ClassId) (p1 : Int32) (p2 : Int32) (σ : xSt) (fo : Nat → Int64) (o : xO) (σ1 : xSt) (hf : fX11_sell p1 p2 σ = some (o, σ1)) (hk : ∀ k, o = .inr k → k = 0 ∨ k = 1 ∨ k = 2) : xMw l yL_sell wsL_sell rmL_sell E ao cL [.ref (E.a 0), .int p1, .int p2, .ref ao] σ fo (xcd 1 2 3 9 o) σ1 (xou fo o) 3 := by
  refine xMw_of (cc := cL_sell) (maxL := 5) (ret := some .int) (by decide) rfl (Nat.le_of_ble_eq_true rfl) ?_
  intro p e s m args below meth c A ls ⟨hx, hb, hr, hml, hown, hts, hlk⟩ hA hG hN htab hw hl
  have hown : s.vm.findClass RL = some m.cls := hown
  have hl : lv_has ls 5 [(0, .ref (E.a 0)), (1, .int p1), (2, .int p2), (3, .ref ao)] := hl
  refine lv_aload_n hx hb dL_sell_0 rfl (lv_at hl 3 rfl) ?_
  refine lv_iconst (v := 0) hx hb dL_sell_1 (by decide) ?_
  refine lv_aload_n hx hb dL_sell_2 rfl (lv_at hl 0 rfl) ?_
  refine lv_iload_n hx hb dL_sell_3 rfl (lv_at hl 1 rfl) ?_
  refine lv_iload_n hx hb dL_sell_4 rfl (lv_at hl 2 rfl) ?_
  cases o with
  | inl v =>
    refine x_tcalli (vx_runV (As := [.int p1, .int p2]) (rest := [.int 0, .ref ao]) ⟨hx, hb, hml, hown, hts⟩ (mX11_sell hl0 (E := xEO E ao cL fo) hE p1 p2 σ (.inl v) σ1 hf s.heap.size) (cwV 2 hts gL_sell_X11_sell rfl rfl rfl (by decide +kernel) ⟨Nat.le_of_ble_eq_true rfl, Nat.le_of_ble_eq_true rfl⟩) (x_preV _ hw.in hA hG (cX0 hE) rfl) rfl rfl hl.1 rfl (lv_room (Nat.le_of_ble_eq_true rfl)) dL_sell_5 ⟨Nat.le_of_ble_eq_true rfl, Nat.le_of_ble_eq_true rfl⟩) hw.in hA (fun q9 ce H locs h1 h2 h3 hw => by obtain ⟨_, h9, _⟩ := h3; cases h9) (fun r9 H locs h1 hw9 => ?_)
    obtain rfl := Sum.inl.inj h1
    have hw := xwW.of hw.1 hw9
    refine lv_i2l hx hb dL_sell_8 rfl ?_
    refine x_wlast hx hb hw dL_sell_9 (fun H locs hw => ?_)
    refine lv_goto (tgt := 25) hx hb dL_sell_10 (by decide) ?_
    refine lv_iconst (v := 0) hx hb dL_sell_25 (by decide) ?_
    exact x_wiret hx hb hr hlk hw rfl (Nat.le_of_ble_eq_true rfl) (Nat.le_of_ble_eq_true rfl) dL_sell_26
  | inr k =>
    obtain ⟨x1, x2, x3, het, e1, e2, e3⟩ := x_t3 htab
    simp only [Prod.mk.injEq] at e1 e2 e3
    rcases hk k rfl with rfl | rfl | rfl
    · refine x_tcalli (vx_runV (As := [.int p1, .int p2]) (rest := [.int 0, .ref ao]) ⟨hx, hb, hml, hown, hts⟩ (mX11_sell hl0 (E := xEO E ao cL fo) hE p1 p2 σ (.inr 0) σ1 hf s.heap.size) (cwV 2 hts gL_sell_X11_sell rfl rfl rfl (by decide +kernel) ⟨Nat.le_of_ble_eq_true rfl, Nat.le_of_ble_eq_true rfl⟩) (x_preV _ hw.in hA hG (cX0 hE) rfl) rfl rfl hl.1 rfl (lv_room (Nat.le_of_ble_eq_true rfl)) dL_sell_5 ⟨Nat.le_of_ble_eq_true rfl, Nat.le_of_ble_eq_true rfl⟩) hw.in hA (fun q9 ce H locs h1 h2 h3 hw9 => ?_) (fun r9 H locs h1 hw9 => nomatch h1)
      have hw := xwW.of hw.1 hw9
      obtain ⟨k9, h9, h3⟩ := h3
      obtain rfl := Sum.inr.inj h9
      refine vx_catch (E := xcls 0) (name := xcls 0) hown [] x1 [x2, x3] (by rw [het]; rfl) (fun z hz => by cases hz) (by rw [covers, e1.1, e1.2.1]; decide) (by rw [e1.2.2.2]; decide) (by rw [e1.2.2.2]; exact hts (.classLink RL 13 "java/lang/IndexOutOfBoundsException") (by decide +kernel)) (va_Nw.use (by decide +kernel) (hG.1 (.castable "java/lang/IndexOutOfBoundsException" "java/lang/IndexOutOfBoundsException") (by decide +kernel))) h1 h2 h3 ?_
      rw [e1.2.2.1]
      refine lv_astore (lv' := [(4, .ref q9), (0, .ref (E.a 0)), (1, .int p1), (2, .int p2), (3, .ref ao)]) hx hb dL_sell_13 hl (by decide) rfl (fun ls hl => ?_)
      refine lv_iconst (v := 1) hx hb dL_sell_15 (by decide) ?_
      exact x_wiret hx hb hr hlk hw rfl (Nat.le_of_ble_eq_true rfl) (Nat.le_of_ble_eq_true rfl) dL_sell_16
    · refine x_tcalli (vx_runV (As := [.int p1, .int p2]) (rest := [.int 0, .ref ao]) ⟨hx, hb, hml, hown, hts⟩ (mX11_sell hl0 (E := xEO E ao cL fo) hE p1 p2 σ (.inr 1) σ1 hf s.heap.size) (cwV 2 hts gL_sell_X11_sell rfl rfl rfl (by decide +kernel) ⟨Nat.le_of_ble_eq_true rfl, Nat.le_of_ble_eq_true rfl⟩) (x_preV _ hw.in hA hG (cX0 hE) rfl) rfl rfl hl.1 rfl (lv_room (Nat.le_of_ble_eq_true rfl)) dL_sell_5 ⟨Nat.le_of_ble_eq_true rfl, Nat.le_of_ble_eq_true rfl⟩) hw.in hA (fun q9 ce H locs h1 h2 h3 hw9 => ?_) (fun r9 H locs h1 hw9 => nomatch h1)
      have hw := xwW.of hw.1 hw9
      obtain ⟨k9, h9, h3⟩ := h3
      obtain rfl := Sum.inr.inj h9
      refine vx_catch (E := xcls 1) (name := xcls 1) hown [x1] x2 [x3] (by rw [het]; rfl) (fun z hz => by simp only [List.mem_cons, List.not_mem_nil, or_false] at hz; subst hz; exact Or.inr ⟨by rw [e1.2.2.2]; decide, xcls 0, by rw [e1.2.2.2]; exact hts (.classLink RL 13 "java/lang/IndexOutOfBoundsException") (by decide +kernel), hN 1 (by decide) 0 (by decide) (by decide)⟩) (by rw [covers, e2.1, e2.2.1]; decide) (by rw [e2.2.2.2]; decide) (by rw [e2.2.2.2]; exact hts (.classLink RL 15 "java/lang/IllegalArgumentException") (by decide +kernel)) (va_Nw.use (by decide +kernel) (hG.1 (.castable "java/lang/IllegalArgumentException" "java/lang/IllegalArgumentException") (by decide +kernel))) h1 h2 h3 ?_
      rw [e2.2.2.1]
      refine lv_astore (lv' := [(4, .ref q9), (0, .ref (E.a 0)), (1, .int p1), (2, .int p2), (3, .ref ao)]) hx hb dL_sell_17 hl (by decide) rfl (fun ls hl => ?_)
      refine lv_iconst (v := 2) hx hb dL_sell_19 (by decide) ?_
      exact x_wiret hx hb hr hlk hw rfl (Nat.le_of_ble_eq_true rfl) (Nat.le_of_ble_eq_true rfl) dL_sell_20
    · refine x_tcalli (vx_runV (As := [.int p1, .int p2]) (rest := [.int 0, .ref ao]) ⟨hx, hb, hml, hown, hts⟩ (mX11_sell hl0 (E := xEO E ao cL fo) hE p1 p2 σ (.inr 2) σ1 hf s.heap.size) (cwV 2 hts gL_sell_X11_sell rfl rfl rfl (by decide +kernel) ⟨Nat.le_of_ble_eq_true rfl, Nat.le_of_ble_eq_true rfl⟩) (x_preV _ hw.in hA hG (cX0 hE) rfl) rfl rfl hl.1 rfl (lv_room (Nat.le_of_ble_eq_true rfl)) dL_sell_5 ⟨Nat.le_of_ble_eq_true rfl, Nat.le_of_ble_eq_true rfl⟩) hw.in hA (fun q9 ce H locs h1 h2 h3 hw9 => ?_) (fun r9 H locs h1 hw9 => nomatch h1)
      have hw := xwW.of hw.1 hw9
      obtain ⟨k9, h9, h3⟩ := h3
      obtain rfl := Sum.inr.inj h9
      refine vx_catch (E := xcls 2) (name := xcls 2) hown [x1, x2] x3 [] (by rw [het]; rfl) (fun z hz => by simp only [List.mem_cons, List.not_mem_nil, or_false] at hz; rcases hz with rfl | rfl; exact Or.inr ⟨by rw [e1.2.2.2]; decide, xcls 0, by rw [e1.2.2.2]; exact hts (.classLink RL 13 "java/lang/IndexOutOfBoundsException") (by decide +kernel), hN 2 (by decide) 0 (by decide) (by decide)⟩; exact Or.inr ⟨by rw [e2.2.2.2]; decide, xcls 1, by rw [e2.2.2.2]; exact hts (.classLink RL 15 "java/lang/IllegalArgumentException") (by decide +kernel), hN 2 (by decide) 1 (by decide) (by decide)⟩) (by rw [covers, e3.1, e3.2.1]; decide) (by rw [e3.2.2.2]; decide) (by rw [e3.2.2.2]; exact hts (.classLink RL 17 "java/lang/IllegalStateException") (by decide +kernel)) (va_Nw.use (by decide +kernel) (hG.1 (.castable "java/lang/IllegalStateException" "java/lang/IllegalStateException") (by decide +kernel))) h1 h2 h3 ?_
      rw [e3.2.2.1]
      refine lv_astore (lv' := [(4, .ref q9), (0, .ref (E.a 0)), (1, .int p1), (2, .int p2), (3, .ref ao)]) hx hb dL_sell_21 hl (by decide) rfl (fun ls hl => ?_)
      refine lv_iconst (v := 3) hx hb dL_sell_23 (by decide) ?_
      exact x_wiret hx hb hr hlk hw rfl (Nat.le_of_ble_eq_true rfl) (Nat.le_of_ble_eq_true rfl) dL_sell_24

abbrev rmL_crumble : Room := { frames := 9, cells := 1, slots := 6, locals := 162 }
set_option maxRecDepth 100000 in
set_option maxHeartbeats 4000000 in
theorem mL_crumble {l : Launch} (hl0 : l.stackTraces = false) {E : xE} (hE : E.sh = shX) (ao : Nat) (cL : ClassId) (p1 : Int32) (σ : xSt) (fo : Nat → Int64) (o : xO) (σ1 : xSt) (hf : fX11_crumble p1 σ = some (o, σ1)) (hk : ∀ k, o = .inr k → k = 0) : xMw l yL_crumble wsL_crumble rmL_crumble E ao cL [.ref (E.a 0), .int p1, .ref ao] σ fo (xcd 1 9 9 9 o) σ1 (xou fo o) 1 := by
  refine xMw_of (cc := cL_crumble) (maxL := 4) (ret := some .int) (by decide) rfl (Nat.le_of_ble_eq_true rfl) ?_
  intro p e s m args below meth c A ls ⟨hx, hb, hr, hml, hown, hts, hlk⟩ hA hG hN htab hw hl
  have hown : s.vm.findClass RL = some m.cls := hown
  have hl : lv_has ls 4 [(0, .ref (E.a 0)), (1, .int p1), (2, .ref ao)] := hl
  refine lv_aload_n hx hb dL_crumble_0 rfl (lv_at hl 2 rfl) ?_
  refine lv_iconst (v := 0) hx hb dL_crumble_1 (by decide) ?_
  refine lv_aload_n hx hb dL_crumble_2 rfl (lv_at hl 0 rfl) ?_
  refine lv_iload_n hx hb dL_crumble_3 rfl (lv_at hl 1 rfl) ?_
  cases o with
  | inl v =>
    refine x_tcalli (vx_runV (As := [.int p1]) (rest := [.int 0, .ref ao]) ⟨hx, hb, hml, hown, hts⟩ (mX11_crumble hl0 (E := xEO E ao cL fo) hE p1 σ (.inl v) σ1 hf s.heap.size) (cwV 1 hts gL_crumble_X11_crumble rfl rfl rfl (by decide +kernel) ⟨Nat.le_of_ble_eq_true rfl, Nat.le_of_ble_eq_true rfl⟩) (x_preV _ hw.in hA hG (cX0 hE) rfl) rfl rfl hl.1 rfl (lv_room (Nat.le_of_ble_eq_true rfl)) dL_crumble_4 ⟨Nat.le_of_ble_eq_true rfl, Nat.le_of_ble_eq_true rfl⟩) hw.in hA (fun q9 ce H locs h1 h2 h3 hw => by obtain ⟨_, h9, _⟩ := h3; cases h9) (fun r9 H locs h1 hw9 => ?_)
    obtain rfl := Sum.inl.inj h1
    have hw := xwW.of hw.1 hw9
    refine lv_i2l hx hb dL_crumble_7 rfl ?_
    refine x_wlast hx hb hw dL_crumble_8 (fun H locs hw => ?_)
    refine lv_goto (tgt := 15) hx hb dL_crumble_9 (by decide) ?_
    refine lv_iconst (v := 0) hx hb dL_crumble_15 (by decide) ?_
    exact x_wiret hx hb hr hlk hw rfl (Nat.le_of_ble_eq_true rfl) (Nat.le_of_ble_eq_true rfl) dL_crumble_16
  | inr k =>
    obtain ⟨x1, het, e1⟩ := x_t1 htab
    simp only [Prod.mk.injEq] at e1
    rcases hk k rfl with rfl
    · refine x_tcalli (vx_runV (As := [.int p1]) (rest := [.int 0, .ref ao]) ⟨hx, hb, hml, hown, hts⟩ (mX11_crumble hl0 (E := xEO E ao cL fo) hE p1 σ (.inr 0) σ1 hf s.heap.size) (cwV 1 hts gL_crumble_X11_crumble rfl rfl rfl (by decide +kernel) ⟨Nat.le_of_ble_eq_true rfl, Nat.le_of_ble_eq_true rfl⟩) (x_preV _ hw.in hA hG (cX0 hE) rfl) rfl rfl hl.1 rfl (lv_room (Nat.le_of_ble_eq_true rfl)) dL_crumble_4 ⟨Nat.le_of_ble_eq_true rfl, Nat.le_of_ble_eq_true rfl⟩) hw.in hA (fun q9 ce H locs h1 h2 h3 hw9 => ?_) (fun r9 H locs h1 hw9 => nomatch h1)
      have hw := xwW.of hw.1 hw9
      obtain ⟨k9, h9, h3⟩ := h3
      obtain rfl := Sum.inr.inj h9
      refine vx_catch (E := xcls 0) (name := xcls 0) hown [] x1 [] (by rw [het]; rfl) (fun z hz => by cases hz) (by rw [covers, e1.1, e1.2.1]; decide) (by rw [e1.2.2.2]; decide) (by rw [e1.2.2.2]; exact hts (.classLink RL 13 "java/lang/IndexOutOfBoundsException") (by decide +kernel)) (va_Nw.use (by decide +kernel) (hG.1 (.castable "java/lang/IndexOutOfBoundsException" "java/lang/IndexOutOfBoundsException") (by decide +kernel))) h1 h2 h3 ?_
      rw [e1.2.2.1]
      refine lv_astore_n (lv' := [(3, .ref q9), (0, .ref (E.a 0)), (1, .int p1), (2, .ref ao)]) hx hb dL_crumble_12 rfl hl (by decide) rfl (fun ls hl => ?_)
      refine lv_iconst (v := 1) hx hb dL_crumble_13 (by decide) ?_
      exact x_wiret hx hb hr hlk hw rfl (Nat.le_of_ble_eq_true rfl) (Nat.le_of_ble_eq_true rfl) dL_crumble_14

abbrev rmL_setFlour : Room := { frames := 8, cells := 2, slots := 12, locals := 164 }
set_option maxRecDepth 100000 in
set_option maxHeartbeats 4000000 in
theorem mL_setFlour {l : Launch} (hl0 : l.stackTraces = false) {E : xE} (hE : E.sh = shX) (ao : Nat) (cL : ClassId) (p1 : Int32) (p2 : Int32) (p3 : Int32) (p4 : Int32) (σ : xSt) (fo : Nat → Int64) (o : xO) (σ1 : xSt) (hf : fX11_setFlour p1 p2 p3 p4 σ = some (o, σ1)) (hk : ∀ k, o = .inr k → k = 0 ∨ k = 1) : xMw l yL_setFlour wsL_setFlour rmL_setFlour E ao cL [.ref (E.a 0), .int p1, .int p2, .int p3, .int p4, .ref ao] σ fo (xcd 1 2 9 9 o) σ1 (xou fo o) 2 := by
  refine xMw_of (cc := cL_setFlour) (maxL := 7) (ret := some .int) (by decide) rfl (Nat.le_of_ble_eq_true rfl) ?_
  intro p e s m args below meth c A ls ⟨hx, hb, hr, hml, hown, hts, hlk⟩ hA hG hN htab hw hl
  have hown : s.vm.findClass RL = some m.cls := hown
  have hl : lv_has ls 7 [(0, .ref (E.a 0)), (1, .int p1), (2, .int p2), (3, .int p3), (4, .int p4), (5, .ref ao)] := hl
  refine lv_aload hx hb dL_setFlour_0 (lv_at hl 5 rfl) ?_
  refine lv_iconst (v := 0) hx hb dL_setFlour_2 (by decide) ?_
  refine lv_aload_n hx hb dL_setFlour_3 rfl (lv_at hl 0 rfl) ?_
  refine lv_iload_n hx hb dL_setFlour_4 rfl (lv_at hl 1 rfl) ?_
  refine lv_iload_n hx hb dL_setFlour_5 rfl (lv_at hl 2 rfl) ?_
  refine lv_iload_n hx hb dL_setFlour_6 rfl (lv_at hl 3 rfl) ?_
  refine lv_iload hx hb dL_setFlour_7 (lv_at hl 4 rfl) ?_
  cases o with
  | inl v =>
    refine x_tcalli (vx_runV (As := [.int p1, .int p2, .int p3, .int p4]) (rest := [.int 0, .ref ao]) ⟨hx, hb, hml, hown, hts⟩ (mX11_setFlour hl0 (E := xEO E ao cL fo) hE p1 p2 p3 p4 σ (.inl v) σ1 hf s.heap.size) (cwV 4 hts gL_setFlour_X11_setFlour rfl rfl rfl (by decide +kernel) ⟨Nat.le_of_ble_eq_true rfl, Nat.le_of_ble_eq_true rfl⟩) (x_preV _ hw.in hA hG (cX0 hE) rfl) rfl rfl hl.1 rfl (lv_room (Nat.le_of_ble_eq_true rfl)) dL_setFlour_9 ⟨Nat.le_of_ble_eq_true rfl, Nat.le_of_ble_eq_true rfl⟩) hw.in hA (fun q9 ce H locs h1 h2 h3 hw => by obtain ⟨_, h9, _⟩ := h3; cases h9) (fun r9 H locs h1 hw9 => ?_)
    obtain rfl := Sum.inl.inj h1
    have hw := xwW.of hw.1 hw9
    refine lv_i2l hx hb dL_setFlour_12 rfl ?_
    refine x_wlast hx hb hw dL_setFlour_13 (fun H locs hw => ?_)
    refine lv_goto (tgt := 25) hx hb dL_setFlour_14 (by decide) ?_
    refine lv_iconst (v := 0) hx hb dL_setFlour_25 (by decide) ?_
    exact x_wiret hx hb hr hlk hw rfl (Nat.le_of_ble_eq_true rfl) (Nat.le_of_ble_eq_true rfl) dL_setFlour_26
  | inr k =>
    obtain ⟨x1, x2, het, e1, e2⟩ := x_t2 htab
    simp only [Prod.mk.injEq] at e1 e2
    rcases hk k rfl with rfl | rfl
    · refine x_tcalli (vx_runV (As := [.int p1, .int p2, .int p3, .int p4]) (rest := [.int 0, .ref ao]) ⟨hx, hb, hml, hown, hts⟩ (mX11_setFlour hl0 (E := xEO E ao cL fo) hE p1 p2 p3 p4 σ (.inr 0) σ1 hf s.heap.size) (cwV 4 hts gL_setFlour_X11_setFlour rfl rfl rfl (by decide +kernel) ⟨Nat.le_of_ble_eq_true rfl, Nat.le_of_ble_eq_true rfl⟩) (x_preV _ hw.in hA hG (cX0 hE) rfl) rfl rfl hl.1 rfl (lv_room (Nat.le_of_ble_eq_true rfl)) dL_setFlour_9 ⟨Nat.le_of_ble_eq_true rfl, Nat.le_of_ble_eq_true rfl⟩) hw.in hA (fun q9 ce H locs h1 h2 h3 hw9 => ?_) (fun r9 H locs h1 hw9 => nomatch h1)
      have hw := xwW.of hw.1 hw9
      obtain ⟨k9, h9, h3⟩ := h3
      obtain rfl := Sum.inr.inj h9
      refine vx_catch (E := xcls 0) (name := xcls 0) hown [] x1 [x2] (by rw [het]; rfl) (fun z hz => by cases hz) (by rw [covers, e1.1, e1.2.1]; decide) (by rw [e1.2.2.2]; decide) (by rw [e1.2.2.2]; exact hts (.classLink RL 13 "java/lang/IndexOutOfBoundsException") (by decide +kernel)) (va_Nw.use (by decide +kernel) (hG.1 (.castable "java/lang/IndexOutOfBoundsException" "java/lang/IndexOutOfBoundsException") (by decide +kernel))) h1 h2 h3 ?_
      rw [e1.2.2.1]
      refine lv_astore (lv' := [(6, .ref q9), (0, .ref (E.a 0)), (1, .int p1), (2, .int p2), (3, .int p3), (4, .int p4), (5, .ref ao)]) hx hb dL_setFlour_17 hl (by decide) rfl (fun ls hl => ?_)
      refine lv_iconst (v := 1) hx hb dL_setFlour_19 (by decide) ?_
      exact x_wiret hx hb hr hlk hw rfl (Nat.le_of_ble_eq_true rfl) (Nat.le_of_ble_eq_true rfl) dL_setFlour_20
    · refine x_tcalli (vx_runV (As := [.int p1, .int p2, .int p3, .int p4]) (rest := [.int 0, .ref ao]) ⟨hx, hb, hml, hown, hts⟩ (mX11_setFlour hl0 (E := xEO E ao cL fo) hE p1 p2 p3 p4 σ (.inr 1) σ1 hf s.heap.size) (cwV 4 hts gL_setFlour_X11_setFlour rfl rfl rfl (by decide +kernel) ⟨Nat.le_of_ble_eq_true rfl, Nat.le_of_ble_eq_true rfl⟩) (x_preV _ hw.in hA hG (cX0 hE) rfl) rfl rfl hl.1 rfl (lv_room (Nat.le_of_ble_eq_true rfl)) dL_setFlour_9 ⟨Nat.le_of_ble_eq_true rfl, Nat.le_of_ble_eq_true rfl⟩) hw.in hA (fun q9 ce H locs h1 h2 h3 hw9 => ?_) (fun r9 H locs h1 hw9 => nomatch h1)
      have hw := xwW.of hw.1 hw9
      obtain ⟨k9, h9, h3⟩ := h3
      obtain rfl := Sum.inr.inj h9
      refine vx_catch (E := xcls 1) (name := xcls 1) hown [x1] x2 [] (by rw [het]; rfl) (fun z hz => by simp only [List.mem_cons, List.not_mem_nil, or_false] at hz; subst hz; exact Or.inr ⟨by rw [e1.2.2.2]; decide, xcls 0, by rw [e1.2.2.2]; exact hts (.classLink RL 13 "java/lang/IndexOutOfBoundsException") (by decide +kernel), hN 1 (by decide) 0 (by decide) (by decide)⟩) (by rw [covers, e2.1, e2.2.1]; decide) (by rw [e2.2.2.2]; decide) (by rw [e2.2.2.2]; exact hts (.classLink RL 15 "java/lang/IllegalArgumentException") (by decide +kernel)) (va_Nw.use (by decide +kernel) (hG.1 (.castable "java/lang/IllegalArgumentException" "java/lang/IllegalArgumentException") (by decide +kernel))) h1 h2 h3 ?_
      rw [e2.2.2.1]
      refine lv_astore (lv' := [(6, .ref q9), (0, .ref (E.a 0)), (1, .int p1), (2, .int p2), (3, .int p3), (4, .int p4), (5, .ref ao)]) hx hb dL_setFlour_21 hl (by decide) rfl (fun ls hl => ?_)
      refine lv_iconst (v := 2) hx hb dL_setFlour_23 (by decide) ?_
      exact x_wiret hx hb hr hlk hw rfl (Nat.le_of_ble_eq_true rfl) (Nat.le_of_ble_eq_true rfl) dL_setFlour_24

abbrev rmL_mixCost : Room := { frames := 8, cells := 2, slots := 12, locals := 190 }
set_option maxRecDepth 100000 in
set_option maxHeartbeats 4000000 in
theorem mL_mixCost {l : Launch} (hl0 : l.stackTraces = false) {E : xE} (hE : E.sh = shX) (ao : Nat) (cL : ClassId) (p1 : Int32) (p2 : Int32) (p3 : Int32) (σ : xSt) (fo : Nat → Int64) (o : xO) (σ1 : xSt) (hf : fX11_mixCost p1 p2 p3 σ = some (o, σ1)) (hk : ∀ k, o = .inr k → k = 1 ∨ k = 3) : xMw l yL_mixCost wsL_mixCost rmL_mixCost E ao cL [.ref (E.a 0), .int p1, .int p2, .int p3, .ref ao] σ fo (xcd 9 1 9 2 o) σ1 (xou fo o) 2 := by
  refine xMw_of (cc := cL_mixCost) (maxL := 6) (ret := some .int) (by decide) rfl (Nat.le_of_ble_eq_true rfl) ?_
  intro p e s m args below meth c A ls ⟨hx, hb, hr, hml, hown, hts, hlk⟩ hA hG hN htab hw hl
  have hown : s.vm.findClass RL = some m.cls := hown
  have hl : lv_has ls 6 [(0, .ref (E.a 0)), (1, .int p1), (2, .int p2), (3, .int p3), (4, .ref ao)] := hl
  refine lv_aload hx hb dL_mixCost_0 (lv_at hl 4 rfl) ?_
  refine lv_iconst (v := 0) hx hb dL_mixCost_2 (by decide) ?_
  refine lv_aload_n hx hb dL_mixCost_3 rfl (lv_at hl 0 rfl) ?_
  refine lv_iload_n hx hb dL_mixCost_4 rfl (lv_at hl 1 rfl) ?_
  refine lv_iload_n hx hb dL_mixCost_5 rfl (lv_at hl 2 rfl) ?_
  refine lv_iload_n hx hb dL_mixCost_6 rfl (lv_at hl 3 rfl) ?_
  cases o with
  | inl v =>
    refine x_tcalli (vx_runV (As := [.int p1, .int p2, .int p3]) (rest := [.int 0, .ref ao]) ⟨hx, hb, hml, hown, hts⟩ (mX11_mixCost hl0 (E := xEO E ao cL fo) hE p1 p2 p3 σ (.inl v) σ1 hf s.heap.size) (cwV 3 hts gL_mixCost_X11_mixCost rfl rfl rfl (by decide +kernel) ⟨Nat.le_of_ble_eq_true rfl, Nat.le_of_ble_eq_true rfl⟩) (x_preV _ hw.in hA hG (cX0 hE) rfl) rfl rfl hl.1 rfl (lv_room (Nat.le_of_ble_eq_true rfl)) dL_mixCost_7 ⟨Nat.le_of_ble_eq_true rfl, Nat.le_of_ble_eq_true rfl⟩) hw.in hA (fun q9 ce H locs h1 h2 h3 hw => by obtain ⟨_, h9, _⟩ := h3; cases h9) (fun r9 H locs h1 hw9 => ?_)
    obtain rfl := Sum.inl.inj h1
    have hw := xwW.of hw.1 hw9
    refine lv_i2l hx hb dL_mixCost_10 rfl ?_
    refine x_wlast hx hb hw dL_mixCost_11 (fun H locs hw => ?_)
    refine lv_goto (tgt := 23) hx hb dL_mixCost_12 (by decide) ?_
    refine lv_iconst (v := 0) hx hb dL_mixCost_23 (by decide) ?_
    exact x_wiret hx hb hr hlk hw rfl (Nat.le_of_ble_eq_true rfl) (Nat.le_of_ble_eq_true rfl) dL_mixCost_24
  | inr k =>
    obtain ⟨x1, x2, het, e1, e2⟩ := x_t2 htab
    simp only [Prod.mk.injEq] at e1 e2
    rcases hk k rfl with rfl | rfl
    · refine x_tcalli (vx_runV (As := [.int p1, .int p2, .int p3]) (rest := [.int 0, .ref ao]) ⟨hx, hb, hml, hown, hts⟩ (mX11_mixCost hl0 (E := xEO E ao cL fo) hE p1 p2 p3 σ (.inr 1) σ1 hf s.heap.size) (cwV 3 hts gL_mixCost_X11_mixCost rfl rfl rfl (by decide +kernel) ⟨Nat.le_of_ble_eq_true rfl, Nat.le_of_ble_eq_true rfl⟩) (x_preV _ hw.in hA hG (cX0 hE) rfl) rfl rfl hl.1 rfl (lv_room (Nat.le_of_ble_eq_true rfl)) dL_mixCost_7 ⟨Nat.le_of_ble_eq_true rfl, Nat.le_of_ble_eq_true rfl⟩) hw.in hA (fun q9 ce H locs h1 h2 h3 hw9 => ?_) (fun r9 H locs h1 hw9 => nomatch h1)
      have hw := xwW.of hw.1 hw9
      obtain ⟨k9, h9, h3⟩ := h3
      obtain rfl := Sum.inr.inj h9
      refine vx_catch (E := xcls 1) (name := xcls 1) hown [] x1 [x2] (by rw [het]; rfl) (fun z hz => by cases hz) (by rw [covers, e1.1, e1.2.1]; decide) (by rw [e1.2.2.2]; decide) (by rw [e1.2.2.2]; exact hts (.classLink RL 15 "java/lang/IllegalArgumentException") (by decide +kernel)) (va_Nw.use (by decide +kernel) (hG.1 (.castable "java/lang/IllegalArgumentException" "java/lang/IllegalArgumentException") (by decide +kernel))) h1 h2 h3 ?_
      rw [e1.2.2.1]
      refine lv_astore (lv' := [(5, .ref q9), (0, .ref (E.a 0)), (1, .int p1), (2, .int p2), (3, .int p3), (4, .ref ao)]) hx hb dL_mixCost_15 hl (by decide) rfl (fun ls hl => ?_)
      refine lv_iconst (v := 1) hx hb dL_mixCost_17 (by decide) ?_
      exact x_wiret hx hb hr hlk hw rfl (Nat.le_of_ble_eq_true rfl) (Nat.le_of_ble_eq_true rfl) dL_mixCost_18
    · refine x_tcalli (vx_runV (As := [.int p1, .int p2, .int p3]) (rest := [.int 0, .ref ao]) ⟨hx, hb, hml, hown, hts⟩ (mX11_mixCost hl0 (E := xEO E ao cL fo) hE p1 p2 p3 σ (.inr 3) σ1 hf s.heap.size) (cwV 3 hts gL_mixCost_X11_mixCost rfl rfl rfl (by decide +kernel) ⟨Nat.le_of_ble_eq_true rfl, Nat.le_of_ble_eq_true rfl⟩) (x_preV _ hw.in hA hG (cX0 hE) rfl) rfl rfl hl.1 rfl (lv_room (Nat.le_of_ble_eq_true rfl)) dL_mixCost_7 ⟨Nat.le_of_ble_eq_true rfl, Nat.le_of_ble_eq_true rfl⟩) hw.in hA (fun q9 ce H locs h1 h2 h3 hw9 => ?_) (fun r9 H locs h1 hw9 => nomatch h1)
      have hw := xwW.of hw.1 hw9
      obtain ⟨k9, h9, h3⟩ := h3
      obtain rfl := Sum.inr.inj h9
      refine vx_catch (E := xcls 3) (name := xcls 3) hown [x1] x2 [] (by rw [het]; rfl) (fun z hz => by simp only [List.mem_cons, List.not_mem_nil, or_false] at hz; subst hz; exact Or.inr ⟨by rw [e1.2.2.2]; decide, xcls 1, by rw [e1.2.2.2]; exact hts (.classLink RL 15 "java/lang/IllegalArgumentException") (by decide +kernel), hN 3 (by decide) 1 (by decide) (by decide)⟩) (by rw [covers, e2.1, e2.2.1]; decide) (by rw [e2.2.2.2]; decide) (by rw [e2.2.2.2]; exact hts (.classLink RL 87 "java/util/NoSuchElementException") (by decide +kernel)) (va_Nw.use (by decide +kernel) (hG.1 (.castable "java/util/NoSuchElementException" "java/util/NoSuchElementException") (by decide +kernel))) h1 h2 h3 ?_
      rw [e2.2.2.1]
      refine lv_astore (lv' := [(5, .ref q9), (0, .ref (E.a 0)), (1, .int p1), (2, .int p2), (3, .int p3), (4, .ref ao)]) hx hb dL_mixCost_19 hl (by decide) rfl (fun ls hl => ?_)
      refine lv_iconst (v := 2) hx hb dL_mixCost_21 (by decide) ?_
      exact x_wiret hx hb hr hlk hw rfl (Nat.le_of_ble_eq_true rfl) (Nat.le_of_ble_eq_true rfl) dL_mixCost_22

abbrev rmL_mixShare : Room := { frames := 8, cells := 3, slots := 18, locals := 191 }
set_option maxRecDepth 100000 in
set_option maxHeartbeats 4000000 in
theorem mL_mixShare {l : Launch} (hl0 : l.stackTraces = false) {E : xE} (hE : E.sh = shX) (ao : Nat) (cL : ClassId) (p1 : Int32) (p2 : Int32) (p3 : Int32) (p4 : Int32) (σ : xSt) (fo : Nat → Int64) (o : xO) (σ1 : xSt) (hf : fX11_mixShare p1 p2 p3 p4 σ = some (o, σ1)) (hk : ∀ k, o = .inr k → k = 0 ∨ k = 1 ∨ k = 3) : xMw l yL_mixShare wsL_mixShare rmL_mixShare E ao cL [.ref (E.a 0), .int p1, .int p2, .int p3, .int p4, .ref ao] σ fo (xcd 1 2 9 3 o) σ1 (xou fo o) 3 := by
  refine xMw_of (cc := cL_mixShare) (maxL := 7) (ret := some .int) (by decide) rfl (Nat.le_of_ble_eq_true rfl) ?_
  intro p e s m args below meth c A ls ⟨hx, hb, hr, hml, hown, hts, hlk⟩ hA hG hN htab hw hl
  have hown : s.vm.findClass RL = some m.cls := hown
  have hl : lv_has ls 7 [(0, .ref (E.a 0)), (1, .int p1), (2, .int p2), (3, .int p3), (4, .int p4), (5, .ref ao)] := hl
  refine lv_aload hx hb dL_mixShare_0 (lv_at hl 5 rfl) ?_
  refine lv_iconst (v := 0) hx hb dL_mixShare_2 (by decide) ?_
  refine lv_aload_n hx hb dL_mixShare_3 rfl (lv_at hl 0 rfl) ?_
  refine lv_iload_n hx hb dL_mixShare_4 rfl (lv_at hl 1 rfl) ?_
  refine lv_iload_n hx hb dL_mixShare_5 rfl (lv_at hl 2 rfl) ?_
  refine lv_iload_n hx hb dL_mixShare_6 rfl (lv_at hl 3 rfl) ?_
  refine lv_iload hx hb dL_mixShare_7 (lv_at hl 4 rfl) ?_
  cases o with
  | inl v =>
    refine x_tcalli (vx_runV (As := [.int p1, .int p2, .int p3, .int p4]) (rest := [.int 0, .ref ao]) ⟨hx, hb, hml, hown, hts⟩ (mX11_mixShare hl0 (E := xEO E ao cL fo) hE p1 p2 p3 p4 σ (.inl v) σ1 hf s.heap.size) (cwV 4 hts gL_mixShare_X11_mixShare rfl rfl rfl (by decide +kernel) ⟨Nat.le_of_ble_eq_true rfl, Nat.le_of_ble_eq_true rfl⟩) (x_preV _ hw.in hA hG (cX0 hE) rfl) rfl rfl hl.1 rfl (lv_room (Nat.le_of_ble_eq_true rfl)) dL_mixShare_9 ⟨Nat.le_of_ble_eq_true rfl, Nat.le_of_ble_eq_true rfl⟩) hw.in hA (fun q9 ce H locs h1 h2 h3 hw => by obtain ⟨_, h9, _⟩ := h3; cases h9) (fun r9 H locs h1 hw9 => ?_)
    obtain rfl := Sum.inl.inj h1
    have hw := xwW.of hw.1 hw9
    refine lv_i2l hx hb dL_mixShare_12 rfl ?_
    refine x_wlast hx hb hw dL_mixShare_13 (fun H locs hw => ?_)
    refine lv_goto (tgt := 29) hx hb dL_mixShare_14 (by decide) ?_
    refine lv_iconst (v := 0) hx hb dL_mixShare_29 (by decide) ?_
    exact x_wiret hx hb hr hlk hw rfl (Nat.le_of_ble_eq_true rfl) (Nat.le_of_ble_eq_true rfl) dL_mixShare_30
  | inr k =>
    obtain ⟨x1, x2, x3, het, e1, e2, e3⟩ := x_t3 htab
    simp only [Prod.mk.injEq] at e1 e2 e3
    rcases hk k rfl with rfl | rfl | rfl
    · refine x_tcalli (vx_runV (As := [.int p1, .int p2, .int p3, .int p4]) (rest := [.int 0, .ref ao]) ⟨hx, hb, hml, hown, hts⟩ (mX11_mixShare hl0 (E := xEO E ao cL fo) hE p1 p2 p3 p4 σ (.inr 0) σ1 hf s.heap.size) (cwV 4 hts gL_mixShare_X11_mixShare rfl rfl rfl (by decide +kernel) ⟨Nat.le_of_ble_eq_true rfl, Nat.le_of_ble_eq_true rfl⟩) (x_preV _ hw.in hA hG (cX0 hE) rfl) rfl rfl hl.1 rfl (lv_room (Nat.le_of_ble_eq_true rfl)) dL_mixShare_9 ⟨Nat.le_of_ble_eq_true rfl, Nat.le_of_ble_eq_true rfl⟩) hw.in hA (fun q9 ce H locs h1 h2 h3 hw9 => ?_) (fun r9 H locs h1 hw9 => nomatch h1)
      have hw := xwW.of hw.1 hw9
      obtain ⟨k9, h9, h3⟩ := h3
      obtain rfl := Sum.inr.inj h9
      refine vx_catch (E := xcls 0) (name := xcls 0) hown [] x1 [x2, x3] (by rw [het]; rfl) (fun z hz => by cases hz) (by rw [covers, e1.1, e1.2.1]; decide) (by rw [e1.2.2.2]; decide) (by rw [e1.2.2.2]; exact hts (.classLink RL 13 "java/lang/IndexOutOfBoundsException") (by decide +kernel)) (va_Nw.use (by decide +kernel) (hG.1 (.castable "java/lang/IndexOutOfBoundsException" "java/lang/IndexOutOfBoundsException") (by decide +kernel))) h1 h2 h3 ?_
      rw [e1.2.2.1]
      refine lv_astore (lv' := [(6, .ref q9), (0, .ref (E.a 0)), (1, .int p1), (2, .int p2), (3, .int p3), (4, .int p4), (5, .ref ao)]) hx hb dL_mixShare_17 hl (by decide) rfl (fun ls hl => ?_)
      refine lv_iconst (v := 1) hx hb dL_mixShare_19 (by decide) ?_
      exact x_wiret hx hb hr hlk hw rfl (Nat.le_of_ble_eq_true rfl) (Nat.le_of_ble_eq_true rfl) dL_mixShare_20
    · refine x_tcalli (vx_runV (As := [.int p1, .int p2, .int p3, .int p4]) (rest := [.int 0, .ref ao]) ⟨hx, hb, hml, hown, hts⟩ (mX11_mixShare hl0 (E := xEO E ao cL fo) hE p1 p2 p3 p4 σ (.inr 1) σ1 hf s.heap.size) (cwV 4 hts gL_mixShare_X11_mixShare rfl rfl rfl (by decide +kernel) ⟨Nat.le_of_ble_eq_true rfl, Nat.le_of_ble_eq_true rfl⟩) (x_preV _ hw.in hA hG (cX0 hE) rfl) rfl rfl hl.1 rfl (lv_room (Nat.le_of_ble_eq_true rfl)) dL_mixShare_9 ⟨Nat.le_of_ble_eq_true rfl, Nat.le_of_ble_eq_true rfl⟩) hw.in hA (fun q9 ce H locs h1 h2 h3 hw9 => ?_) (fun r9 H locs h1 hw9 => nomatch h1)
      have hw := xwW.of hw.1 hw9
      obtain ⟨k9, h9, h3⟩ := h3
      obtain rfl := Sum.inr.inj h9
      refine vx_catch (E := xcls 1) (name := xcls 1) hown [x1] x2 [x3] (by rw [het]; rfl) (fun z hz => by simp only [List.mem_cons, List.not_mem_nil, or_false] at hz; subst hz; exact Or.inr ⟨by rw [e1.2.2.2]; decide, xcls 0, by rw [e1.2.2.2]; exact hts (.classLink RL 13 "java/lang/IndexOutOfBoundsException") (by decide +kernel), hN 1 (by decide) 0 (by decide) (by decide)⟩) (by rw [covers, e2.1, e2.2.1]; decide) (by rw [e2.2.2.2]; decide) (by rw [e2.2.2.2]; exact hts (.classLink RL 15 "java/lang/IllegalArgumentException") (by decide +kernel)) (va_Nw.use (by decide +kernel) (hG.1 (.castable "java/lang/IllegalArgumentException" "java/lang/IllegalArgumentException") (by decide +kernel))) h1 h2 h3 ?_
      rw [e2.2.2.1]
      refine lv_astore (lv' := [(6, .ref q9), (0, .ref (E.a 0)), (1, .int p1), (2, .int p2), (3, .int p3), (4, .int p4), (5, .ref ao)]) hx hb dL_mixShare_21 hl (by decide) rfl (fun ls hl => ?_)
      refine lv_iconst (v := 2) hx hb dL_mixShare_23 (by decide) ?_
      exact x_wiret hx hb hr hlk hw rfl (Nat.le_of_ble_eq_true rfl) (Nat.le_of_ble_eq_true rfl) dL_mixShare_24
    · refine x_tcalli (vx_runV (As := [.int p1, .int p2, .int p3, .int p4]) (rest := [.int 0, .ref ao]) ⟨hx, hb, hml, hown, hts⟩ (mX11_mixShare hl0 (E := xEO E ao cL fo) hE p1 p2 p3 p4 σ (.inr 3) σ1 hf s.heap.size) (cwV 4 hts gL_mixShare_X11_mixShare rfl rfl rfl (by decide +kernel) ⟨Nat.le_of_ble_eq_true rfl, Nat.le_of_ble_eq_true rfl⟩) (x_preV _ hw.in hA hG (cX0 hE) rfl) rfl rfl hl.1 rfl (lv_room (Nat.le_of_ble_eq_true rfl)) dL_mixShare_9 ⟨Nat.le_of_ble_eq_true rfl, Nat.le_of_ble_eq_true rfl⟩) hw.in hA (fun q9 ce H locs h1 h2 h3 hw9 => ?_) (fun r9 H locs h1 hw9 => nomatch h1)
      have hw := xwW.of hw.1 hw9
      obtain ⟨k9, h9, h3⟩ := h3
      obtain rfl := Sum.inr.inj h9
      refine vx_catch (E := xcls 3) (name := xcls 3) hown [x1, x2] x3 [] (by rw [het]; rfl) (fun z hz => by simp only [List.mem_cons, List.not_mem_nil, or_false] at hz; rcases hz with rfl | rfl; exact Or.inr ⟨by rw [e1.2.2.2]; decide, xcls 0, by rw [e1.2.2.2]; exact hts (.classLink RL 13 "java/lang/IndexOutOfBoundsException") (by decide +kernel), hN 3 (by decide) 0 (by decide) (by decide)⟩; exact Or.inr ⟨by rw [e2.2.2.2]; decide, xcls 1, by rw [e2.2.2.2]; exact hts (.classLink RL 15 "java/lang/IllegalArgumentException") (by decide +kernel), hN 3 (by decide) 1 (by decide) (by decide)⟩) (by rw [covers, e3.1, e3.2.1]; decide) (by rw [e3.2.2.2]; decide) (by rw [e3.2.2.2]; exact hts (.classLink RL 87 "java/util/NoSuchElementException") (by decide +kernel)) (va_Nw.use (by decide +kernel) (hG.1 (.castable "java/util/NoSuchElementException" "java/util/NoSuchElementException") (by decide +kernel))) h1 h2 h3 ?_
      rw [e3.2.2.1]
      refine lv_astore (lv' := [(6, .ref q9), (0, .ref (E.a 0)), (1, .int p1), (2, .int p2), (3, .int p3), (4, .int p4), (5, .ref ao)]) hx hb dL_mixShare_25 hl (by decide) rfl (fun ls hl => ?_)
      refine lv_iconst (v := 3) hx hb dL_mixShare_27 (by decide) ?_
      exact x_wiret hx hb hr hlk hw rfl (Nat.le_of_ble_eq_true rfl) (Nat.le_of_ble_eq_true rfl) dL_mixShare_28

abbrev rmL_note : Room := { frames := 9, cells := 3, slots := 18, locals := 161 }
set_option maxRecDepth 100000 in
set_option maxHeartbeats 4000000 in
theorem mL_note {l : Launch} (hl0 : l.stackTraces = false) {E : xE} (hE : E.sh = shX) (ao : Nat) (cL : ClassId) (p1 : Int32) (p2 : Int32) (σ : xSt) (fo : Nat → Int64) (o : xO) (σ1 : xSt) (hf : fX11_note p1 p2 σ = some (o, σ1)) (hk : ∀ k, o = .inr k → k = 0 ∨ k = 1 ∨ k = 2) : xMw l yL_note wsL_note rmL_note E ao cL [.ref (E.a 0), .int p1, .int p2, .ref ao] σ fo (xcd 1 2 3 9 o) σ1 (xou fo o) 3 := by
  refine xMw_of (cc := cL_note) (maxL := 5) (ret := some .int) (by decide) rfl (Nat.le_of_ble_eq_true rfl) ?_
  intro p e s m args below meth c A ls ⟨hx, hb, hr, hml, hown, hts, hlk⟩ hA hG hN htab hw hl
  have hown : s.vm.findClass RL = some m.cls := hown
  have hl : lv_has ls 5 [(0, .ref (E.a 0)), (1, .int p1), (2, .int p2), (3, .ref ao)] := hl
  refine lv_aload_n hx hb dL_note_0 rfl (lv_at hl 3 rfl) ?_
  refine lv_iconst (v := 0) hx hb dL_note_1 (by decide) ?_
  refine lv_aload_n hx hb dL_note_2 rfl (lv_at hl 0 rfl) ?_
  refine lv_iload_n hx hb dL_note_3 rfl (lv_at hl 1 rfl) ?_
  refine lv_iload_n hx hb dL_note_4 rfl (lv_at hl 2 rfl) ?_
  cases o with
  | inl v =>
    refine x_tcalli (vx_runV (As := [.int p1, .int p2]) (rest := [.int 0, .ref ao]) ⟨hx, hb, hml, hown, hts⟩ (mX11_note hl0 (E := xEO E ao cL fo) hE p1 p2 σ (.inl v) σ1 hf s.heap.size) (cwV 2 hts gL_note_X11_note rfl rfl rfl (by decide +kernel) ⟨Nat.le_of_ble_eq_true rfl, Nat.le_of_ble_eq_true rfl⟩) (x_preV _ hw.in hA hG (cX0 hE) rfl) rfl rfl hl.1 rfl (lv_room (Nat.le_of_ble_eq_true rfl)) dL_note_5 ⟨Nat.le_of_ble_eq_true rfl, Nat.le_of_ble_eq_true rfl⟩) hw.in hA (fun q9 ce H locs h1 h2 h3 hw => by obtain ⟨_, h9, _⟩ := h3; cases h9) (fun r9 H locs h1 hw9 => ?_)
    obtain rfl := Sum.inl.inj h1
    have hw := xwW.of hw.1 hw9
    refine lv_i2l hx hb dL_note_8 rfl ?_
    refine x_wlast hx hb hw dL_note_9 (fun H locs hw => ?_)
    refine lv_goto (tgt := 25) hx hb dL_note_10 (by decide) ?_
    refine lv_iconst (v := 0) hx hb dL_note_25 (by decide) ?_
    exact x_wiret hx hb hr hlk hw rfl (Nat.le_of_ble_eq_true rfl) (Nat.le_of_ble_eq_true rfl) dL_note_26
  | inr k =>
    obtain ⟨x1, x2, x3, het, e1, e2, e3⟩ := x_t3 htab
    simp only [Prod.mk.injEq] at e1 e2 e3
    rcases hk k rfl with rfl | rfl | rfl
    · refine x_tcalli (vx_runV (As := [.int p1, .int p2]) (rest := [.int 0, .ref ao]) ⟨hx, hb, hml, hown, hts⟩ (mX11_note hl0 (E := xEO E ao cL fo) hE p1 p2 σ (.inr 0) σ1 hf s.heap.size) (cwV 2 hts gL_note_X11_note rfl rfl rfl (by decide +kernel) ⟨Nat.le_of_ble_eq_true rfl, Nat.le_of_ble_eq_true rfl⟩) (x_preV _ hw.in hA hG (cX0 hE) rfl) rfl rfl hl.1 rfl (lv_room (Nat.le_of_ble_eq_true rfl)) dL_note_5 ⟨Nat.le_of_ble_eq_true rfl, Nat.le_of_ble_eq_true rfl⟩) hw.in hA (fun q9 ce H locs h1 h2 h3 hw9 => ?_) (fun r9 H locs h1 hw9 => nomatch h1)
      have hw := xwW.of hw.1 hw9
      obtain ⟨k9, h9, h3⟩ := h3
      obtain rfl := Sum.inr.inj h9
      refine vx_catch (E := xcls 0) (name := xcls 0) hown [] x1 [x2, x3] (by rw [het]; rfl) (fun z hz => by cases hz) (by rw [covers, e1.1, e1.2.1]; decide) (by rw [e1.2.2.2]; decide) (by rw [e1.2.2.2]; exact hts (.classLink RL 13 "java/lang/IndexOutOfBoundsException") (by decide +kernel)) (va_Nw.use (by decide +kernel) (hG.1 (.castable "java/lang/IndexOutOfBoundsException" "java/lang/IndexOutOfBoundsException") (by decide +kernel))) h1 h2 h3 ?_
      rw [e1.2.2.1]
      refine lv_astore (lv' := [(4, .ref q9), (0, .ref (E.a 0)), (1, .int p1), (2, .int p2), (3, .ref ao)]) hx hb dL_note_13 hl (by decide) rfl (fun ls hl => ?_)
      refine lv_iconst (v := 1) hx hb dL_note_15 (by decide) ?_
      exact x_wiret hx hb hr hlk hw rfl (Nat.le_of_ble_eq_true rfl) (Nat.le_of_ble_eq_true rfl) dL_note_16
    · refine x_tcalli (vx_runV (As := [.int p1, .int p2]) (rest := [.int 0, .ref ao]) ⟨hx, hb, hml, hown, hts⟩ (mX11_note hl0 (E := xEO E ao cL fo) hE p1 p2 σ (.inr 1) σ1 hf s.heap.size) (cwV 2 hts gL_note_X11_note rfl rfl rfl (by decide +kernel) ⟨Nat.le_of_ble_eq_true rfl, Nat.le_of_ble_eq_true rfl⟩) (x_preV _ hw.in hA hG (cX0 hE) rfl) rfl rfl hl.1 rfl (lv_room (Nat.le_of_ble_eq_true rfl)) dL_note_5 ⟨Nat.le_of_ble_eq_true rfl, Nat.le_of_ble_eq_true rfl⟩) hw.in hA (fun q9 ce H locs h1 h2 h3 hw9 => ?_) (fun r9 H locs h1 hw9 => nomatch h1)
      have hw := xwW.of hw.1 hw9
      obtain ⟨k9, h9, h3⟩ := h3
      obtain rfl := Sum.inr.inj h9
      refine vx_catch (E := xcls 1) (name := xcls 1) hown [x1] x2 [x3] (by rw [het]; rfl) (fun z hz => by simp only [List.mem_cons, List.not_mem_nil, or_false] at hz; subst hz; exact Or.inr ⟨by rw [e1.2.2.2]; decide, xcls 0, by rw [e1.2.2.2]; exact hts (.classLink RL 13 "java/lang/IndexOutOfBoundsException") (by decide +kernel), hN 1 (by decide) 0 (by decide) (by decide)⟩) (by rw [covers, e2.1, e2.2.1]; decide) (by rw [e2.2.2.2]; decide) (by rw [e2.2.2.2]; exact hts (.classLink RL 15 "java/lang/IllegalArgumentException") (by decide +kernel)) (va_Nw.use (by decide +kernel) (hG.1 (.castable "java/lang/IllegalArgumentException" "java/lang/IllegalArgumentException") (by decide +kernel))) h1 h2 h3 ?_
      rw [e2.2.2.1]
      refine lv_astore (lv' := [(4, .ref q9), (0, .ref (E.a 0)), (1, .int p1), (2, .int p2), (3, .ref ao)]) hx hb dL_note_17 hl (by decide) rfl (fun ls hl => ?_)
      refine lv_iconst (v := 2) hx hb dL_note_19 (by decide) ?_
      exact x_wiret hx hb hr hlk hw rfl (Nat.le_of_ble_eq_true rfl) (Nat.le_of_ble_eq_true rfl) dL_note_20
    · refine x_tcalli (vx_runV (As := [.int p1, .int p2]) (rest := [.int 0, .ref ao]) ⟨hx, hb, hml, hown, hts⟩ (mX11_note hl0 (E := xEO E ao cL fo) hE p1 p2 σ (.inr 2) σ1 hf s.heap.size) (cwV 2 hts gL_note_X11_note rfl rfl rfl (by decide +kernel) ⟨Nat.le_of_ble_eq_true rfl, Nat.le_of_ble_eq_true rfl⟩) (x_preV _ hw.in hA hG (cX0 hE) rfl) rfl rfl hl.1 rfl (lv_room (Nat.le_of_ble_eq_true rfl)) dL_note_5 ⟨Nat.le_of_ble_eq_true rfl, Nat.le_of_ble_eq_true rfl⟩) hw.in hA (fun q9 ce H locs h1 h2 h3 hw9 => ?_) (fun r9 H locs h1 hw9 => nomatch h1)
      have hw := xwW.of hw.1 hw9
      obtain ⟨k9, h9, h3⟩ := h3
      obtain rfl := Sum.inr.inj h9
      refine vx_catch (E := xcls 2) (name := xcls 2) hown [x1, x2] x3 [] (by rw [het]; rfl) (fun z hz => by simp only [List.mem_cons, List.not_mem_nil, or_false] at hz; rcases hz with rfl | rfl; exact Or.inr ⟨by rw [e1.2.2.2]; decide, xcls 0, by rw [e1.2.2.2]; exact hts (.classLink RL 13 "java/lang/IndexOutOfBoundsException") (by decide +kernel), hN 2 (by decide) 0 (by decide) (by decide)⟩; exact Or.inr ⟨by rw [e2.2.2.2]; decide, xcls 1, by rw [e2.2.2.2]; exact hts (.classLink RL 15 "java/lang/IllegalArgumentException") (by decide +kernel), hN 2 (by decide) 1 (by decide) (by decide)⟩) (by rw [covers, e3.1, e3.2.1]; decide) (by rw [e3.2.2.2]; decide) (by rw [e3.2.2.2]; exact hts (.classLink RL 17 "java/lang/IllegalStateException") (by decide +kernel)) (va_Nw.use (by decide +kernel) (hG.1 (.castable "java/lang/IllegalStateException" "java/lang/IllegalStateException") (by decide +kernel))) h1 h2 h3 ?_
      rw [e3.2.2.1]
      refine lv_astore (lv' := [(4, .ref q9), (0, .ref (E.a 0)), (1, .int p1), (2, .int p2), (3, .ref ao)]) hx hb dL_note_21 hl (by decide) rfl (fun ls hl => ?_)
      refine lv_iconst (v := 3) hx hb dL_note_23 (by decide) ?_
      exact x_wiret hx hb hr hlk hw rfl (Nat.le_of_ble_eq_true rfl) (Nat.le_of_ble_eq_true rfl) dL_note_24

abbrev rmL_bestNumber : Room := { frames := 9, cells := 3, slots := 18, locals := 154 }
set_option maxRecDepth 100000 in
set_option maxHeartbeats 4000000 in
theorem mL_bestNumber {l : Launch} (hl0 : l.stackTraces = false) {E : xE} (hE : E.sh = shX) (ao : Nat) (cL : ClassId) (p1 : Int32) (p2 : Int32) (p3 : Int32) (σ : xSt) (fo : Nat → Int64) (o : xO) (σ1 : xSt) (hf : fX11_bestNumber p1 p2 p3 σ = some (o, σ1)) (hk : ∀ k, o = .inr k → k = 0 ∨ k = 1 ∨ k = 3) : xMw l yL_bestNumber wsL_bestNumber rmL_bestNumber E ao cL [.ref (E.a 0), .int p1, .int p2, .int p3, .ref ao] σ fo (xcd 1 2 9 3 o) σ1 (xou fo o) 3 := by
  refine xMw_of (cc := cL_bestNumber) (maxL := 6) (ret := some .int) (by decide) rfl (Nat.le_of_ble_eq_true rfl) ?_
  intro p e s m args below meth c A ls ⟨hx, hb, hr, hml, hown, hts, hlk⟩ hA hG hN htab hw hl
  have hown : s.vm.findClass RL = some m.cls := hown
  have hl : lv_has ls 6 [(0, .ref (E.a 0)), (1, .int p1), (2, .int p2), (3, .int p3), (4, .ref ao)] := hl
  refine lv_aload hx hb dL_bestNumber_0 (lv_at hl 4 rfl) ?_
  refine lv_iconst (v := 0) hx hb dL_bestNumber_2 (by decide) ?_
  refine lv_aload_n hx hb dL_bestNumber_3 rfl (lv_at hl 0 rfl) ?_
  refine lv_iload_n hx hb dL_bestNumber_4 rfl (lv_at hl 1 rfl) ?_
  refine lv_iload_n hx hb dL_bestNumber_5 rfl (lv_at hl 2 rfl) ?_
  refine lv_iload_n hx hb dL_bestNumber_6 rfl (lv_at hl 3 rfl) ?_
  cases o with
  | inl v =>
    refine x_tcalli (vx_runV (As := [.int p1, .int p2, .int p3]) (rest := [.int 0, .ref ao]) ⟨hx, hb, hml, hown, hts⟩ (mX11_bestNumber hl0 (E := xEO E ao cL fo) hE p1 p2 p3 σ (.inl v) σ1 hf s.heap.size) (cwV 3 hts gL_bestNumber_X11_bestNumber rfl rfl rfl (by decide +kernel) ⟨Nat.le_of_ble_eq_true rfl, Nat.le_of_ble_eq_true rfl⟩) (x_preV _ hw.in hA hG (cX0 hE) rfl) rfl rfl hl.1 rfl (lv_room (Nat.le_of_ble_eq_true rfl)) dL_bestNumber_7 ⟨Nat.le_of_ble_eq_true rfl, Nat.le_of_ble_eq_true rfl⟩) hw.in hA (fun q9 ce H locs h1 h2 h3 hw => by obtain ⟨_, h9, _⟩ := h3; cases h9) (fun r9 H locs h1 hw9 => ?_)
    obtain rfl := Sum.inl.inj h1
    have hw := xwW.of hw.1 hw9
    refine lv_i2l hx hb dL_bestNumber_10 rfl ?_
    refine x_wlast hx hb hw dL_bestNumber_11 (fun H locs hw => ?_)
    refine lv_goto (tgt := 27) hx hb dL_bestNumber_12 (by decide) ?_
    refine lv_iconst (v := 0) hx hb dL_bestNumber_27 (by decide) ?_
    exact x_wiret hx hb hr hlk hw rfl (Nat.le_of_ble_eq_true rfl) (Nat.le_of_ble_eq_true rfl) dL_bestNumber_28
  | inr k =>
    obtain ⟨x1, x2, x3, het, e1, e2, e3⟩ := x_t3 htab
    simp only [Prod.mk.injEq] at e1 e2 e3
    rcases hk k rfl with rfl | rfl | rfl
    · refine x_tcalli (vx_runV (As := [.int p1, .int p2, .int p3]) (rest := [.int 0, .ref ao]) ⟨hx, hb, hml, hown, hts⟩ (mX11_bestNumber hl0 (E := xEO E ao cL fo) hE p1 p2 p3 σ (.inr 0) σ1 hf s.heap.size) (cwV 3 hts gL_bestNumber_X11_bestNumber rfl rfl rfl (by decide +kernel) ⟨Nat.le_of_ble_eq_true rfl, Nat.le_of_ble_eq_true rfl⟩) (x_preV _ hw.in hA hG (cX0 hE) rfl) rfl rfl hl.1 rfl (lv_room (Nat.le_of_ble_eq_true rfl)) dL_bestNumber_7 ⟨Nat.le_of_ble_eq_true rfl, Nat.le_of_ble_eq_true rfl⟩) hw.in hA (fun q9 ce H locs h1 h2 h3 hw9 => ?_) (fun r9 H locs h1 hw9 => nomatch h1)
      have hw := xwW.of hw.1 hw9
      obtain ⟨k9, h9, h3⟩ := h3
      obtain rfl := Sum.inr.inj h9
      refine vx_catch (E := xcls 0) (name := xcls 0) hown [] x1 [x2, x3] (by rw [het]; rfl) (fun z hz => by cases hz) (by rw [covers, e1.1, e1.2.1]; decide) (by rw [e1.2.2.2]; decide) (by rw [e1.2.2.2]; exact hts (.classLink RL 13 "java/lang/IndexOutOfBoundsException") (by decide +kernel)) (va_Nw.use (by decide +kernel) (hG.1 (.castable "java/lang/IndexOutOfBoundsException" "java/lang/IndexOutOfBoundsException") (by decide +kernel))) h1 h2 h3 ?_
      rw [e1.2.2.1]
      refine lv_astore (lv' := [(5, .ref q9), (0, .ref (E.a 0)), (1, .int p1), (2, .int p2), (3, .int p3), (4, .ref ao)]) hx hb dL_bestNumber_15 hl (by decide) rfl (fun ls hl => ?_)
      refine lv_iconst (v := 1) hx hb dL_bestNumber_17 (by decide) ?_
      exact x_wiret hx hb hr hlk hw rfl (Nat.le_of_ble_eq_true rfl) (Nat.le_of_ble_eq_true rfl) dL_bestNumber_18
    · refine x_tcalli (vx_runV (As := [.int p1, .int p2, .int p3]) (rest := [.int 0, .ref ao]) ⟨hx, hb, hml, hown, hts⟩ (mX11_bestNumber hl0 (E := xEO E ao cL fo) hE p1 p2 p3 σ (.inr 1) σ1 hf s.heap.size) (cwV 3 hts gL_bestNumber_X11_bestNumber rfl rfl rfl (by decide +kernel) ⟨Nat.le_of_ble_eq_true rfl, Nat.le_of_ble_eq_true rfl⟩) (x_preV _ hw.in hA hG (cX0 hE) rfl) rfl rfl hl.1 rfl (lv_room (Nat.le_of_ble_eq_true rfl)) dL_bestNumber_7 ⟨Nat.le_of_ble_eq_true rfl, Nat.le_of_ble_eq_true rfl⟩) hw.in hA (fun q9 ce H locs h1 h2 h3 hw9 => ?_) (fun r9 H locs h1 hw9 => nomatch h1)
      have hw := xwW.of hw.1 hw9
      obtain ⟨k9, h9, h3⟩ := h3
      obtain rfl := Sum.inr.inj h9
      refine vx_catch (E := xcls 1) (name := xcls 1) hown [x1] x2 [x3] (by rw [het]; rfl) (fun z hz => by simp only [List.mem_cons, List.not_mem_nil, or_false] at hz; subst hz; exact Or.inr ⟨by rw [e1.2.2.2]; decide, xcls 0, by rw [e1.2.2.2]; exact hts (.classLink RL 13 "java/lang/IndexOutOfBoundsException") (by decide +kernel), hN 1 (by decide) 0 (by decide) (by decide)⟩) (by rw [covers, e2.1, e2.2.1]; decide) (by rw [e2.2.2.2]; decide) (by rw [e2.2.2.2]; exact hts (.classLink RL 15 "java/lang/IllegalArgumentException") (by decide +kernel)) (va_Nw.use (by decide +kernel) (hG.1 (.castable "java/lang/IllegalArgumentException" "java/lang/IllegalArgumentException") (by decide +kernel))) h1 h2 h3 ?_
      rw [e2.2.2.1]
      refine lv_astore (lv' := [(5, .ref q9), (0, .ref (E.a 0)), (1, .int p1), (2, .int p2), (3, .int p3), (4, .ref ao)]) hx hb dL_bestNumber_19 hl (by decide) rfl (fun ls hl => ?_)
      refine lv_iconst (v := 2) hx hb dL_bestNumber_21 (by decide) ?_
      exact x_wiret hx hb hr hlk hw rfl (Nat.le_of_ble_eq_true rfl) (Nat.le_of_ble_eq_true rfl) dL_bestNumber_22
    · refine x_tcalli (vx_runV (As := [.int p1, .int p2, .int p3]) (rest := [.int 0, .ref ao]) ⟨hx, hb, hml, hown, hts⟩ (mX11_bestNumber hl0 (E := xEO E ao cL fo) hE p1 p2 p3 σ (.inr 3) σ1 hf s.heap.size) (cwV 3 hts gL_bestNumber_X11_bestNumber rfl rfl rfl (by decide +kernel) ⟨Nat.le_of_ble_eq_true rfl, Nat.le_of_ble_eq_true rfl⟩) (x_preV _ hw.in hA hG (cX0 hE) rfl) rfl rfl hl.1 rfl (lv_room (Nat.le_of_ble_eq_true rfl)) dL_bestNumber_7 ⟨Nat.le_of_ble_eq_true rfl, Nat.le_of_ble_eq_true rfl⟩) hw.in hA (fun q9 ce H locs h1 h2 h3 hw9 => ?_) (fun r9 H locs h1 hw9 => nomatch h1)
      have hw := xwW.of hw.1 hw9
      obtain ⟨k9, h9, h3⟩ := h3
      obtain rfl := Sum.inr.inj h9
      refine vx_catch (E := xcls 3) (name := xcls 3) hown [x1, x2] x3 [] (by rw [het]; rfl) (fun z hz => by simp only [List.mem_cons, List.not_mem_nil, or_false] at hz; rcases hz with rfl | rfl; exact Or.inr ⟨by rw [e1.2.2.2]; decide, xcls 0, by rw [e1.2.2.2]; exact hts (.classLink RL 13 "java/lang/IndexOutOfBoundsException") (by decide +kernel), hN 3 (by decide) 0 (by decide) (by decide)⟩; exact Or.inr ⟨by rw [e2.2.2.2]; decide, xcls 1, by rw [e2.2.2.2]; exact hts (.classLink RL 15 "java/lang/IllegalArgumentException") (by decide +kernel), hN 3 (by decide) 1 (by decide) (by decide)⟩) (by rw [covers, e3.1, e3.2.1]; decide) (by rw [e3.2.2.2]; decide) (by rw [e3.2.2.2]; exact hts (.classLink RL 87 "java/util/NoSuchElementException") (by decide +kernel)) (va_Nw.use (by decide +kernel) (hG.1 (.castable "java/util/NoSuchElementException" "java/util/NoSuchElementException") (by decide +kernel))) h1 h2 h3 ?_
      rw [e3.2.2.1]
      refine lv_astore (lv' := [(5, .ref q9), (0, .ref (E.a 0)), (1, .int p1), (2, .int p2), (3, .int p3), (4, .ref ao)]) hx hb dL_bestNumber_23 hl (by decide) rfl (fun ls hl => ?_)
      refine lv_iconst (v := 3) hx hb dL_bestNumber_25 (by decide) ?_
      exact x_wiret hx hb hr hlk hw rfl (Nat.le_of_ble_eq_true rfl) (Nat.le_of_ble_eq_true rfl) dL_bestNumber_26

abbrev rmL_loss : Room := { frames := 9, cells := 2, slots := 12, locals := 155 }
set_option maxRecDepth 100000 in
set_option maxHeartbeats 4000000 in
theorem mL_loss {l : Launch} (hl0 : l.stackTraces = false) {E : xE} (hE : E.sh = shX) (ao : Nat) (cL : ClassId) (p1 : Int32) (p2 : Int32) (p3 : Int32) (p4 : Int32) (σ : xSt) (fo : Nat → Int64) (o : xO) (σ1 : xSt) (hf : fX11_loss p1 p2 p3 p4 σ = some (o, σ1)) (hk : ∀ k, o = .inr k → k = 0 ∨ k = 1) : xMw l yL_loss wsL_loss rmL_loss E ao cL [.ref (E.a 0), .int p1, .int p2, .int p3, .int p4, .ref ao] σ fo (xcd 1 2 9 9 o) σ1 (xou fo o) 2 := by
  refine xMw_of (cc := cL_loss) (maxL := 7) (ret := some .int) (by decide) rfl (Nat.le_of_ble_eq_true rfl) ?_
  intro p e s m args below meth c A ls ⟨hx, hb, hr, hml, hown, hts, hlk⟩ hA hG hN htab hw hl
  have hown : s.vm.findClass RL = some m.cls := hown
  have hl : lv_has ls 7 [(0, .ref (E.a 0)), (1, .int p1), (2, .int p2), (3, .int p3), (4, .int p4), (5, .ref ao)] := hl
  refine lv_aload hx hb dL_loss_0 (lv_at hl 5 rfl) ?_
  refine lv_iconst (v := 0) hx hb dL_loss_2 (by decide) ?_
  refine lv_aload_n hx hb dL_loss_3 rfl (lv_at hl 0 rfl) ?_
  refine lv_iload_n hx hb dL_loss_4 rfl (lv_at hl 1 rfl) ?_
  refine lv_iload_n hx hb dL_loss_5 rfl (lv_at hl 2 rfl) ?_
  refine lv_iload_n hx hb dL_loss_6 rfl (lv_at hl 3 rfl) ?_
  refine lv_iload hx hb dL_loss_7 (lv_at hl 4 rfl) ?_
  cases o with
  | inl v =>
    refine x_tcalli (vx_runV (As := [.int p1, .int p2, .int p3, .int p4]) (rest := [.int 0, .ref ao]) ⟨hx, hb, hml, hown, hts⟩ (mX11_loss hl0 (E := xEO E ao cL fo) hE p1 p2 p3 p4 σ (.inl v) σ1 hf s.heap.size) (cwV 4 hts gL_loss_X11_loss rfl rfl rfl (by decide +kernel) ⟨Nat.le_of_ble_eq_true rfl, Nat.le_of_ble_eq_true rfl⟩) (x_preV _ hw.in hA hG (cX0 hE) rfl) rfl rfl hl.1 rfl (lv_room (Nat.le_of_ble_eq_true rfl)) dL_loss_9 ⟨Nat.le_of_ble_eq_true rfl, Nat.le_of_ble_eq_true rfl⟩) hw.in hA (fun q9 ce H locs h1 h2 h3 hw => by obtain ⟨_, h9, _⟩ := h3; cases h9) (fun r9 H locs h1 hw9 => ?_)
    obtain rfl := Sum.inl.inj h1
    have hw := xwW.of hw.1 hw9
    refine lv_i2l hx hb dL_loss_12 rfl ?_
    refine x_wlast hx hb hw dL_loss_13 (fun H locs hw => ?_)
    refine lv_goto (tgt := 25) hx hb dL_loss_14 (by decide) ?_
    refine lv_iconst (v := 0) hx hb dL_loss_25 (by decide) ?_
    exact x_wiret hx hb hr hlk hw rfl (Nat.le_of_ble_eq_true rfl) (Nat.le_of_ble_eq_true rfl) dL_loss_26
  | inr k =>
    obtain ⟨x1, x2, het, e1, e2⟩ := x_t2 htab
    simp only [Prod.mk.injEq] at e1 e2
    rcases hk k rfl with rfl | rfl
    · refine x_tcalli (vx_runV (As := [.int p1, .int p2, .int p3, .int p4]) (rest := [.int 0, .ref ao]) ⟨hx, hb, hml, hown, hts⟩ (mX11_loss hl0 (E := xEO E ao cL fo) hE p1 p2 p3 p4 σ (.inr 0) σ1 hf s.heap.size) (cwV 4 hts gL_loss_X11_loss rfl rfl rfl (by decide +kernel) ⟨Nat.le_of_ble_eq_true rfl, Nat.le_of_ble_eq_true rfl⟩) (x_preV _ hw.in hA hG (cX0 hE) rfl) rfl rfl hl.1 rfl (lv_room (Nat.le_of_ble_eq_true rfl)) dL_loss_9 ⟨Nat.le_of_ble_eq_true rfl, Nat.le_of_ble_eq_true rfl⟩) hw.in hA (fun q9 ce H locs h1 h2 h3 hw9 => ?_) (fun r9 H locs h1 hw9 => nomatch h1)
      have hw := xwW.of hw.1 hw9
      obtain ⟨k9, h9, h3⟩ := h3
      obtain rfl := Sum.inr.inj h9
      refine vx_catch (E := xcls 0) (name := xcls 0) hown [] x1 [x2] (by rw [het]; rfl) (fun z hz => by cases hz) (by rw [covers, e1.1, e1.2.1]; decide) (by rw [e1.2.2.2]; decide) (by rw [e1.2.2.2]; exact hts (.classLink RL 13 "java/lang/IndexOutOfBoundsException") (by decide +kernel)) (va_Nw.use (by decide +kernel) (hG.1 (.castable "java/lang/IndexOutOfBoundsException" "java/lang/IndexOutOfBoundsException") (by decide +kernel))) h1 h2 h3 ?_
      rw [e1.2.2.1]
      refine lv_astore (lv' := [(6, .ref q9), (0, .ref (E.a 0)), (1, .int p1), (2, .int p2), (3, .int p3), (4, .int p4), (5, .ref ao)]) hx hb dL_loss_17 hl (by decide) rfl (fun ls hl => ?_)
      refine lv_iconst (v := 1) hx hb dL_loss_19 (by decide) ?_
      exact x_wiret hx hb hr hlk hw rfl (Nat.le_of_ble_eq_true rfl) (Nat.le_of_ble_eq_true rfl) dL_loss_20
    · refine x_tcalli (vx_runV (As := [.int p1, .int p2, .int p3, .int p4]) (rest := [.int 0, .ref ao]) ⟨hx, hb, hml, hown, hts⟩ (mX11_loss hl0 (E := xEO E ao cL fo) hE p1 p2 p3 p4 σ (.inr 1) σ1 hf s.heap.size) (cwV 4 hts gL_loss_X11_loss rfl rfl rfl (by decide +kernel) ⟨Nat.le_of_ble_eq_true rfl, Nat.le_of_ble_eq_true rfl⟩) (x_preV _ hw.in hA hG (cX0 hE) rfl) rfl rfl hl.1 rfl (lv_room (Nat.le_of_ble_eq_true rfl)) dL_loss_9 ⟨Nat.le_of_ble_eq_true rfl, Nat.le_of_ble_eq_true rfl⟩) hw.in hA (fun q9 ce H locs h1 h2 h3 hw9 => ?_) (fun r9 H locs h1 hw9 => nomatch h1)
      have hw := xwW.of hw.1 hw9
      obtain ⟨k9, h9, h3⟩ := h3
      obtain rfl := Sum.inr.inj h9
      refine vx_catch (E := xcls 1) (name := xcls 1) hown [x1] x2 [] (by rw [het]; rfl) (fun z hz => by simp only [List.mem_cons, List.not_mem_nil, or_false] at hz; subst hz; exact Or.inr ⟨by rw [e1.2.2.2]; decide, xcls 0, by rw [e1.2.2.2]; exact hts (.classLink RL 13 "java/lang/IndexOutOfBoundsException") (by decide +kernel), hN 1 (by decide) 0 (by decide) (by decide)⟩) (by rw [covers, e2.1, e2.2.1]; decide) (by rw [e2.2.2.2]; decide) (by rw [e2.2.2.2]; exact hts (.classLink RL 15 "java/lang/IllegalArgumentException") (by decide +kernel)) (va_Nw.use (by decide +kernel) (hG.1 (.castable "java/lang/IllegalArgumentException" "java/lang/IllegalArgumentException") (by decide +kernel))) h1 h2 h3 ?_
      rw [e2.2.2.1]
      refine lv_astore (lv' := [(6, .ref q9), (0, .ref (E.a 0)), (1, .int p1), (2, .int p2), (3, .int p3), (4, .int p4), (5, .ref ao)]) hx hb dL_loss_21 hl (by decide) rfl (fun ls hl => ?_)
      refine lv_iconst (v := 2) hx hb dL_loss_23 (by decide) ?_
      exact x_wiret hx hb hr hlk hw rfl (Nat.le_of_ble_eq_true rfl) (Nat.le_of_ble_eq_true rfl) dL_loss_24

abbrev rmL_addShop : Room := { frames := 8, cells := 2, slots := 12, locals := 165 }
set_option maxRecDepth 100000 in
set_option maxHeartbeats 4000000 in
theorem mL_addShop {l : Launch} (hl0 : l.stackTraces = false) {E : xE} (hE : E.sh = shX) (ao : Nat) (cL : ClassId) (p1 : Int32) (p2 : Int32) (p3 : Int32) (p4 : Int32) (p5 : Int32) (σ : xSt) (fo : Nat → Int64) (o : xO) (σ1 : xSt) (hf : fX11_addShop p1 p2 p3 p4 p5 σ = some (o, σ1)) (hk : ∀ k, o = .inr k → k = 1 ∨ k = 2) : xMw l yL_addShop wsL_addShop rmL_addShop E ao cL [.ref (E.a 0), .int p1, .int p2, .int p3, .int p4, .int p5, .ref ao] σ fo (xcd 9 1 2 9 o) σ1 (xou fo o) 2 := by
  refine xMw_of (cc := cL_addShop) (maxL := 8) (ret := some .int) (by decide) rfl (Nat.le_of_ble_eq_true rfl) ?_
  intro p e s m args below meth c A ls ⟨hx, hb, hr, hml, hown, hts, hlk⟩ hA hG hN htab hw hl
  have hown : s.vm.findClass RL = some m.cls := hown
  have hl : lv_has ls 8 [(0, .ref (E.a 0)), (1, .int p1), (2, .int p2), (3, .int p3), (4, .int p4), (5, .int p5), (6, .ref ao)] := hl
  refine lv_aload hx hb dL_addShop_0 (lv_at hl 6 rfl) ?_
  refine lv_iconst (v := 0) hx hb dL_addShop_2 (by decide) ?_
  refine lv_aload_n hx hb dL_addShop_3 rfl (lv_at hl 0 rfl) ?_
  refine lv_iload_n hx hb dL_addShop_4 rfl (lv_at hl 1 rfl) ?_
  refine lv_iload_n hx hb dL_addShop_5 rfl (lv_at hl 2 rfl) ?_
  refine lv_iload_n hx hb dL_addShop_6 rfl (lv_at hl 3 rfl) ?_
  refine lv_iload hx hb dL_addShop_7 (lv_at hl 4 rfl) ?_
  refine lv_iload hx hb dL_addShop_9 (lv_at hl 5 rfl) ?_
  cases o with
  | inl v =>
    refine x_tcalli (vx_runV (As := [.int p1, .int p2, .int p3, .int p4, .int p5]) (rest := [.int 0, .ref ao]) ⟨hx, hb, hml, hown, hts⟩ (mX11_addShop hl0 (E := xEO E ao cL fo) hE p1 p2 p3 p4 p5 σ (.inl v) σ1 hf s.heap.size) (cwV 5 hts gL_addShop_X11_addShop rfl rfl rfl (by decide +kernel) ⟨Nat.le_of_ble_eq_true rfl, Nat.le_of_ble_eq_true rfl⟩) (x_preV _ hw.in hA hG (cX0 hE) rfl) rfl rfl hl.1 rfl (lv_room (Nat.le_of_ble_eq_true rfl)) dL_addShop_11 ⟨Nat.le_of_ble_eq_true rfl, Nat.le_of_ble_eq_true rfl⟩) hw.in hA (fun q9 ce H locs h1 h2 h3 hw => by obtain ⟨_, h9, _⟩ := h3; cases h9) (fun r9 H locs h1 hw9 => ?_)
    obtain rfl := Sum.inl.inj h1
    have hw := xwW.of hw.1 hw9
    refine lv_i2l hx hb dL_addShop_14 rfl ?_
    refine x_wlast hx hb hw dL_addShop_15 (fun H locs hw => ?_)
    refine lv_goto (tgt := 27) hx hb dL_addShop_16 (by decide) ?_
    refine lv_iconst (v := 0) hx hb dL_addShop_27 (by decide) ?_
    exact x_wiret hx hb hr hlk hw rfl (Nat.le_of_ble_eq_true rfl) (Nat.le_of_ble_eq_true rfl) dL_addShop_28
  | inr k =>
    obtain ⟨x1, x2, het, e1, e2⟩ := x_t2 htab
    simp only [Prod.mk.injEq] at e1 e2
    rcases hk k rfl with rfl | rfl
    · refine x_tcalli (vx_runV (As := [.int p1, .int p2, .int p3, .int p4, .int p5]) (rest := [.int 0, .ref ao]) ⟨hx, hb, hml, hown, hts⟩ (mX11_addShop hl0 (E := xEO E ao cL fo) hE p1 p2 p3 p4 p5 σ (.inr 1) σ1 hf s.heap.size) (cwV 5 hts gL_addShop_X11_addShop rfl rfl rfl (by decide +kernel) ⟨Nat.le_of_ble_eq_true rfl, Nat.le_of_ble_eq_true rfl⟩) (x_preV _ hw.in hA hG (cX0 hE) rfl) rfl rfl hl.1 rfl (lv_room (Nat.le_of_ble_eq_true rfl)) dL_addShop_11 ⟨Nat.le_of_ble_eq_true rfl, Nat.le_of_ble_eq_true rfl⟩) hw.in hA (fun q9 ce H locs h1 h2 h3 hw9 => ?_) (fun r9 H locs h1 hw9 => nomatch h1)
      have hw := xwW.of hw.1 hw9
      obtain ⟨k9, h9, h3⟩ := h3
      obtain rfl := Sum.inr.inj h9
      refine vx_catch (E := xcls 1) (name := xcls 1) hown [] x1 [x2] (by rw [het]; rfl) (fun z hz => by cases hz) (by rw [covers, e1.1, e1.2.1]; decide) (by rw [e1.2.2.2]; decide) (by rw [e1.2.2.2]; exact hts (.classLink RL 15 "java/lang/IllegalArgumentException") (by decide +kernel)) (va_Nw.use (by decide +kernel) (hG.1 (.castable "java/lang/IllegalArgumentException" "java/lang/IllegalArgumentException") (by decide +kernel))) h1 h2 h3 ?_
      rw [e1.2.2.1]
      refine lv_astore (lv' := [(7, .ref q9), (0, .ref (E.a 0)), (1, .int p1), (2, .int p2), (3, .int p3), (4, .int p4), (5, .int p5), (6, .ref ao)]) hx hb dL_addShop_19 hl (by decide) rfl (fun ls hl => ?_)
      refine lv_iconst (v := 1) hx hb dL_addShop_21 (by decide) ?_
      exact x_wiret hx hb hr hlk hw rfl (Nat.le_of_ble_eq_true rfl) (Nat.le_of_ble_eq_true rfl) dL_addShop_22
    · refine x_tcalli (vx_runV (As := [.int p1, .int p2, .int p3, .int p4, .int p5]) (rest := [.int 0, .ref ao]) ⟨hx, hb, hml, hown, hts⟩ (mX11_addShop hl0 (E := xEO E ao cL fo) hE p1 p2 p3 p4 p5 σ (.inr 2) σ1 hf s.heap.size) (cwV 5 hts gL_addShop_X11_addShop rfl rfl rfl (by decide +kernel) ⟨Nat.le_of_ble_eq_true rfl, Nat.le_of_ble_eq_true rfl⟩) (x_preV _ hw.in hA hG (cX0 hE) rfl) rfl rfl hl.1 rfl (lv_room (Nat.le_of_ble_eq_true rfl)) dL_addShop_11 ⟨Nat.le_of_ble_eq_true rfl, Nat.le_of_ble_eq_true rfl⟩) hw.in hA (fun q9 ce H locs h1 h2 h3 hw9 => ?_) (fun r9 H locs h1 hw9 => nomatch h1)
      have hw := xwW.of hw.1 hw9
      obtain ⟨k9, h9, h3⟩ := h3
      obtain rfl := Sum.inr.inj h9
      refine vx_catch (E := xcls 2) (name := xcls 2) hown [x1] x2 [] (by rw [het]; rfl) (fun z hz => by simp only [List.mem_cons, List.not_mem_nil, or_false] at hz; subst hz; exact Or.inr ⟨by rw [e1.2.2.2]; decide, xcls 1, by rw [e1.2.2.2]; exact hts (.classLink RL 15 "java/lang/IllegalArgumentException") (by decide +kernel), hN 2 (by decide) 1 (by decide) (by decide)⟩) (by rw [covers, e2.1, e2.2.1]; decide) (by rw [e2.2.2.2]; decide) (by rw [e2.2.2.2]; exact hts (.classLink RL 17 "java/lang/IllegalStateException") (by decide +kernel)) (va_Nw.use (by decide +kernel) (hG.1 (.castable "java/lang/IllegalStateException" "java/lang/IllegalStateException") (by decide +kernel))) h1 h2 h3 ?_
      rw [e2.2.2.1]
      refine lv_astore (lv' := [(7, .ref q9), (0, .ref (E.a 0)), (1, .int p1), (2, .int p2), (3, .int p3), (4, .int p4), (5, .int p5), (6, .ref ao)]) hx hb dL_addShop_23 hl (by decide) rfl (fun ls hl => ?_)
      refine lv_iconst (v := 2) hx hb dL_addShop_25 (by decide) ?_
      exact x_wiret hx hb hr hlk hw rfl (Nat.le_of_ble_eq_true rfl) (Nat.le_of_ble_eq_true rfl) dL_addShop_26

abbrev rmL_comesBack : Room := { frames := 16, cells := 2, slots := 12, locals := 446 }
set_option maxRecDepth 100000 in
set_option maxHeartbeats 4000000 in
theorem mL_comesBack {l : Launch} (hl0 : l.stackTraces = false) {E : xE} (hE : E.sh = shX) (ao : Nat) (cL : ClassId) (p1 : Int32) (σ : xSt) (fo : Nat → Int64) (o : xO) (σ1 : xSt) (hf : fX11_comesBack p1 σ = some (o, σ1)) (hk : ∀ k, o = .inr k → k = 1 ∨ k = 3) : xMw l yL_comesBack wsL_comesBack rmL_comesBack E ao cL [.ref (E.a 0), .int p1, .ref ao] σ fo (xcd 9 1 9 2 o) σ1 (xou fo o) 2 := by
  refine xMw_of (cc := cL_comesBack) (maxL := 4) (ret := some .int) (by decide) rfl (Nat.le_of_ble_eq_true rfl) ?_
  intro p e s m args below meth c A ls ⟨hx, hb, hr, hml, hown, hts, hlk⟩ hA hG hN htab hw hl
  have hown : s.vm.findClass RL = some m.cls := hown
  have hl : lv_has ls 4 [(0, .ref (E.a 0)), (1, .int p1), (2, .ref ao)] := hl
  refine lv_aload_n hx hb dL_comesBack_0 rfl (lv_at hl 2 rfl) ?_
  refine lv_iconst (v := 0) hx hb dL_comesBack_1 (by decide) ?_
  refine lv_aload_n hx hb dL_comesBack_2 rfl (lv_at hl 0 rfl) ?_
  refine lv_iload_n hx hb dL_comesBack_3 rfl (lv_at hl 1 rfl) ?_
  cases o with
  | inl v =>
    refine x_tcalli (vx_runV (As := [.int p1]) (rest := [.int 0, .ref ao]) ⟨hx, hb, hml, hown, hts⟩ (mX11_comesBack hl0 (E := xEO E ao cL fo) hE p1 σ (.inl v) σ1 hf s.heap.size) (cwV 1 hts gL_comesBack_X11_comesBack rfl rfl rfl (by decide +kernel) ⟨Nat.le_of_ble_eq_true rfl, Nat.le_of_ble_eq_true rfl⟩) (x_preV _ hw.in hA hG (cX0 hE) rfl) rfl rfl hl.1 rfl (lv_room (Nat.le_of_ble_eq_true rfl)) dL_comesBack_4 ⟨Nat.le_of_ble_eq_true rfl, Nat.le_of_ble_eq_true rfl⟩) hw.in hA (fun q9 ce H locs h1 h2 h3 hw => by obtain ⟨_, h9, _⟩ := h3; cases h9) (fun r9 H locs h1 hw9 => ?_)
    obtain rfl := Sum.inl.inj h1
    have hw := xwW.of hw.1 hw9
    refine lv_i2l hx hb dL_comesBack_7 rfl ?_
    refine x_wlast hx hb hw dL_comesBack_8 (fun H locs hw => ?_)
    refine lv_goto (tgt := 18) hx hb dL_comesBack_9 (by decide) ?_
    refine lv_iconst (v := 0) hx hb dL_comesBack_18 (by decide) ?_
    exact x_wiret hx hb hr hlk hw rfl (Nat.le_of_ble_eq_true rfl) (Nat.le_of_ble_eq_true rfl) dL_comesBack_19
  | inr k =>
    obtain ⟨x1, x2, het, e1, e2⟩ := x_t2 htab
    simp only [Prod.mk.injEq] at e1 e2
    rcases hk k rfl with rfl | rfl
    · refine x_tcalli (vx_runV (As := [.int p1]) (rest := [.int 0, .ref ao]) ⟨hx, hb, hml, hown, hts⟩ (mX11_comesBack hl0 (E := xEO E ao cL fo) hE p1 σ (.inr 1) σ1 hf s.heap.size) (cwV 1 hts gL_comesBack_X11_comesBack rfl rfl rfl (by decide +kernel) ⟨Nat.le_of_ble_eq_true rfl, Nat.le_of_ble_eq_true rfl⟩) (x_preV _ hw.in hA hG (cX0 hE) rfl) rfl rfl hl.1 rfl (lv_room (Nat.le_of_ble_eq_true rfl)) dL_comesBack_4 ⟨Nat.le_of_ble_eq_true rfl, Nat.le_of_ble_eq_true rfl⟩) hw.in hA (fun q9 ce H locs h1 h2 h3 hw9 => ?_) (fun r9 H locs h1 hw9 => nomatch h1)
      have hw := xwW.of hw.1 hw9
      obtain ⟨k9, h9, h3⟩ := h3
      obtain rfl := Sum.inr.inj h9
      refine vx_catch (E := xcls 1) (name := xcls 1) hown [] x1 [x2] (by rw [het]; rfl) (fun z hz => by cases hz) (by rw [covers, e1.1, e1.2.1]; decide) (by rw [e1.2.2.2]; decide) (by rw [e1.2.2.2]; exact hts (.classLink RL 15 "java/lang/IllegalArgumentException") (by decide +kernel)) (va_Nw.use (by decide +kernel) (hG.1 (.castable "java/lang/IllegalArgumentException" "java/lang/IllegalArgumentException") (by decide +kernel))) h1 h2 h3 ?_
      rw [e1.2.2.1]
      refine lv_astore_n (lv' := [(3, .ref q9), (0, .ref (E.a 0)), (1, .int p1), (2, .ref ao)]) hx hb dL_comesBack_12 rfl hl (by decide) rfl (fun ls hl => ?_)
      refine lv_iconst (v := 1) hx hb dL_comesBack_13 (by decide) ?_
      exact x_wiret hx hb hr hlk hw rfl (Nat.le_of_ble_eq_true rfl) (Nat.le_of_ble_eq_true rfl) dL_comesBack_14
    · refine x_tcalli (vx_runV (As := [.int p1]) (rest := [.int 0, .ref ao]) ⟨hx, hb, hml, hown, hts⟩ (mX11_comesBack hl0 (E := xEO E ao cL fo) hE p1 σ (.inr 3) σ1 hf s.heap.size) (cwV 1 hts gL_comesBack_X11_comesBack rfl rfl rfl (by decide +kernel) ⟨Nat.le_of_ble_eq_true rfl, Nat.le_of_ble_eq_true rfl⟩) (x_preV _ hw.in hA hG (cX0 hE) rfl) rfl rfl hl.1 rfl (lv_room (Nat.le_of_ble_eq_true rfl)) dL_comesBack_4 ⟨Nat.le_of_ble_eq_true rfl, Nat.le_of_ble_eq_true rfl⟩) hw.in hA (fun q9 ce H locs h1 h2 h3 hw9 => ?_) (fun r9 H locs h1 hw9 => nomatch h1)
      have hw := xwW.of hw.1 hw9
      obtain ⟨k9, h9, h3⟩ := h3
      obtain rfl := Sum.inr.inj h9
      refine vx_catch (E := xcls 3) (name := xcls 3) hown [x1] x2 [] (by rw [het]; rfl) (fun z hz => by simp only [List.mem_cons, List.not_mem_nil, or_false] at hz; subst hz; exact Or.inr ⟨by rw [e1.2.2.2]; decide, xcls 1, by rw [e1.2.2.2]; exact hts (.classLink RL 15 "java/lang/IllegalArgumentException") (by decide +kernel), hN 3 (by decide) 1 (by decide) (by decide)⟩) (by rw [covers, e2.1, e2.2.1]; decide) (by rw [e2.2.2.2]; decide) (by rw [e2.2.2.2]; exact hts (.classLink RL 87 "java/util/NoSuchElementException") (by decide +kernel)) (va_Nw.use (by decide +kernel) (hG.1 (.castable "java/util/NoSuchElementException" "java/util/NoSuchElementException") (by decide +kernel))) h1 h2 h3 ?_
      rw [e2.2.2.1]
      refine lv_astore_n (lv' := [(3, .ref q9), (0, .ref (E.a 0)), (1, .int p1), (2, .ref ao)]) hx hb dL_comesBack_15 rfl hl (by decide) rfl (fun ls hl => ?_)
      refine lv_iconst (v := 2) hx hb dL_comesBack_16 (by decide) ?_
      exact x_wiret hx hb hr hlk hw rfl (Nat.le_of_ble_eq_true rfl) (Nat.le_of_ble_eq_true rfl) dL_comesBack_17

abbrev rmL_shopOf : Room := { frames := 16, cells := 3, slots := 18, locals := 447 }
set_option maxRecDepth 100000 in
set_option maxHeartbeats 4000000 in
theorem mL_shopOf {l : Launch} (hl0 : l.stackTraces = false) {E : xE} (hE : E.sh = shX) (ao : Nat) (cL : ClassId) (p1 : Int32) (p2 : Int32) (σ : xSt) (fo : Nat → Int64) (o : xO) (σ1 : xSt) (hf : fX11_shopOf p1 p2 σ = some (o, σ1)) (hk : ∀ k, o = .inr k → k = 0 ∨ k = 1 ∨ k = 3) : xMw l yL_shopOf wsL_shopOf rmL_shopOf E ao cL [.ref (E.a 0), .int p1, .int p2, .ref ao] σ fo (xcd 1 2 9 3 o) σ1 (xou fo o) 3 := by
  refine xMw_of (cc := cL_shopOf) (maxL := 5) (ret := some .int) (by decide) rfl (Nat.le_of_ble_eq_true rfl) ?_
  intro p e s m args below meth c A ls ⟨hx, hb, hr, hml, hown, hts, hlk⟩ hA hG hN htab hw hl
  have hown : s.vm.findClass RL = some m.cls := hown
  have hl : lv_has ls 5 [(0, .ref (E.a 0)), (1, .int p1), (2, .int p2), (3, .ref ao)] := hl
  refine lv_aload_n hx hb dL_shopOf_0 rfl (lv_at hl 3 rfl) ?_
  refine lv_iconst (v := 0) hx hb dL_shopOf_1 (by decide) ?_
  refine lv_aload_n hx hb dL_shopOf_2 rfl (lv_at hl 0 rfl) ?_
  refine lv_iload_n hx hb dL_shopOf_3 rfl (lv_at hl 1 rfl) ?_
  refine lv_iload_n hx hb dL_shopOf_4 rfl (lv_at hl 2 rfl) ?_
  cases o with
  | inl v =>
    refine x_tcalli (vx_runV (As := [.int p1, .int p2]) (rest := [.int 0, .ref ao]) ⟨hx, hb, hml, hown, hts⟩ (mX11_shopOf hl0 (E := xEO E ao cL fo) hE p1 p2 σ (.inl v) σ1 hf s.heap.size) (cwV 2 hts gL_shopOf_X11_shopOf rfl rfl rfl (by decide +kernel) ⟨Nat.le_of_ble_eq_true rfl, Nat.le_of_ble_eq_true rfl⟩) (x_preV _ hw.in hA hG (cX0 hE) rfl) rfl rfl hl.1 rfl (lv_room (Nat.le_of_ble_eq_true rfl)) dL_shopOf_5 ⟨Nat.le_of_ble_eq_true rfl, Nat.le_of_ble_eq_true rfl⟩) hw.in hA (fun q9 ce H locs h1 h2 h3 hw => by obtain ⟨_, h9, _⟩ := h3; cases h9) (fun r9 H locs h1 hw9 => ?_)
    obtain rfl := Sum.inl.inj h1
    have hw := xwW.of hw.1 hw9
    refine lv_i2l hx hb dL_shopOf_8 rfl ?_
    refine x_wlast hx hb hw dL_shopOf_9 (fun H locs hw => ?_)
    refine lv_goto (tgt := 25) hx hb dL_shopOf_10 (by decide) ?_
    refine lv_iconst (v := 0) hx hb dL_shopOf_25 (by decide) ?_
    exact x_wiret hx hb hr hlk hw rfl (Nat.le_of_ble_eq_true rfl) (Nat.le_of_ble_eq_true rfl) dL_shopOf_26
  | inr k =>
    obtain ⟨x1, x2, x3, het, e1, e2, e3⟩ := x_t3 htab
    simp only [Prod.mk.injEq] at e1 e2 e3
    rcases hk k rfl with rfl | rfl | rfl
    · refine x_tcalli (vx_runV (As := [.int p1, .int p2]) (rest := [.int 0, .ref ao]) ⟨hx, hb, hml, hown, hts⟩ (mX11_shopOf hl0 (E := xEO E ao cL fo) hE p1 p2 σ (.inr 0) σ1 hf s.heap.size) (cwV 2 hts gL_shopOf_X11_shopOf rfl rfl rfl (by decide +kernel) ⟨Nat.le_of_ble_eq_true rfl, Nat.le_of_ble_eq_true rfl⟩) (x_preV _ hw.in hA hG (cX0 hE) rfl) rfl rfl hl.1 rfl (lv_room (Nat.le_of_ble_eq_true rfl)) dL_shopOf_5 ⟨Nat.le_of_ble_eq_true rfl, Nat.le_of_ble_eq_true rfl⟩) hw.in hA (fun q9 ce H locs h1 h2 h3 hw9 => ?_) (fun r9 H locs h1 hw9 => nomatch h1)
      have hw := xwW.of hw.1 hw9
      obtain ⟨k9, h9, h3⟩ := h3
      obtain rfl := Sum.inr.inj h9
      refine vx_catch (E := xcls 0) (name := xcls 0) hown [] x1 [x2, x3] (by rw [het]; rfl) (fun z hz => by cases hz) (by rw [covers, e1.1, e1.2.1]; decide) (by rw [e1.2.2.2]; decide) (by rw [e1.2.2.2]; exact hts (.classLink RL 13 "java/lang/IndexOutOfBoundsException") (by decide +kernel)) (va_Nw.use (by decide +kernel) (hG.1 (.castable "java/lang/IndexOutOfBoundsException" "java/lang/IndexOutOfBoundsException") (by decide +kernel))) h1 h2 h3 ?_
      rw [e1.2.2.1]
      refine lv_astore (lv' := [(4, .ref q9), (0, .ref (E.a 0)), (1, .int p1), (2, .int p2), (3, .ref ao)]) hx hb dL_shopOf_13 hl (by decide) rfl (fun ls hl => ?_)
      refine lv_iconst (v := 1) hx hb dL_shopOf_15 (by decide) ?_
      exact x_wiret hx hb hr hlk hw rfl (Nat.le_of_ble_eq_true rfl) (Nat.le_of_ble_eq_true rfl) dL_shopOf_16
    · refine x_tcalli (vx_runV (As := [.int p1, .int p2]) (rest := [.int 0, .ref ao]) ⟨hx, hb, hml, hown, hts⟩ (mX11_shopOf hl0 (E := xEO E ao cL fo) hE p1 p2 σ (.inr 1) σ1 hf s.heap.size) (cwV 2 hts gL_shopOf_X11_shopOf rfl rfl rfl (by decide +kernel) ⟨Nat.le_of_ble_eq_true rfl, Nat.le_of_ble_eq_true rfl⟩) (x_preV _ hw.in hA hG (cX0 hE) rfl) rfl rfl hl.1 rfl (lv_room (Nat.le_of_ble_eq_true rfl)) dL_shopOf_5 ⟨Nat.le_of_ble_eq_true rfl, Nat.le_of_ble_eq_true rfl⟩) hw.in hA (fun q9 ce H locs h1 h2 h3 hw9 => ?_) (fun r9 H locs h1 hw9 => nomatch h1)
      have hw := xwW.of hw.1 hw9
      obtain ⟨k9, h9, h3⟩ := h3
      obtain rfl := Sum.inr.inj h9
      refine vx_catch (E := xcls 1) (name := xcls 1) hown [x1] x2 [x3] (by rw [het]; rfl) (fun z hz => by simp only [List.mem_cons, List.not_mem_nil, or_false] at hz; subst hz; exact Or.inr ⟨by rw [e1.2.2.2]; decide, xcls 0, by rw [e1.2.2.2]; exact hts (.classLink RL 13 "java/lang/IndexOutOfBoundsException") (by decide +kernel), hN 1 (by decide) 0 (by decide) (by decide)⟩) (by rw [covers, e2.1, e2.2.1]; decide) (by rw [e2.2.2.2]; decide) (by rw [e2.2.2.2]; exact hts (.classLink RL 15 "java/lang/IllegalArgumentException") (by decide +kernel)) (va_Nw.use (by decide +kernel) (hG.1 (.castable "java/lang/IllegalArgumentException" "java/lang/IllegalArgumentException") (by decide +kernel))) h1 h2 h3 ?_
      rw [e2.2.2.1]
      refine lv_astore (lv' := [(4, .ref q9), (0, .ref (E.a 0)), (1, .int p1), (2, .int p2), (3, .ref ao)]) hx hb dL_shopOf_17 hl (by decide) rfl (fun ls hl => ?_)
      refine lv_iconst (v := 2) hx hb dL_shopOf_19 (by decide) ?_
      exact x_wiret hx hb hr hlk hw rfl (Nat.le_of_ble_eq_true rfl) (Nat.le_of_ble_eq_true rfl) dL_shopOf_20
    · refine x_tcalli (vx_runV (As := [.int p1, .int p2]) (rest := [.int 0, .ref ao]) ⟨hx, hb, hml, hown, hts⟩ (mX11_shopOf hl0 (E := xEO E ao cL fo) hE p1 p2 σ (.inr 3) σ1 hf s.heap.size) (cwV 2 hts gL_shopOf_X11_shopOf rfl rfl rfl (by decide +kernel) ⟨Nat.le_of_ble_eq_true rfl, Nat.le_of_ble_eq_true rfl⟩) (x_preV _ hw.in hA hG (cX0 hE) rfl) rfl rfl hl.1 rfl (lv_room (Nat.le_of_ble_eq_true rfl)) dL_shopOf_5 ⟨Nat.le_of_ble_eq_true rfl, Nat.le_of_ble_eq_true rfl⟩) hw.in hA (fun q9 ce H locs h1 h2 h3 hw9 => ?_) (fun r9 H locs h1 hw9 => nomatch h1)
      have hw := xwW.of hw.1 hw9
      obtain ⟨k9, h9, h3⟩ := h3
      obtain rfl := Sum.inr.inj h9
      refine vx_catch (E := xcls 3) (name := xcls 3) hown [x1, x2] x3 [] (by rw [het]; rfl) (fun z hz => by simp only [List.mem_cons, List.not_mem_nil, or_false] at hz; rcases hz with rfl | rfl; exact Or.inr ⟨by rw [e1.2.2.2]; decide, xcls 0, by rw [e1.2.2.2]; exact hts (.classLink RL 13 "java/lang/IndexOutOfBoundsException") (by decide +kernel), hN 3 (by decide) 0 (by decide) (by decide)⟩; exact Or.inr ⟨by rw [e2.2.2.2]; decide, xcls 1, by rw [e2.2.2.2]; exact hts (.classLink RL 15 "java/lang/IllegalArgumentException") (by decide +kernel), hN 3 (by decide) 1 (by decide) (by decide)⟩) (by rw [covers, e3.1, e3.2.1]; decide) (by rw [e3.2.2.2]; decide) (by rw [e3.2.2.2]; exact hts (.classLink RL 87 "java/util/NoSuchElementException") (by decide +kernel)) (va_Nw.use (by decide +kernel) (hG.1 (.castable "java/util/NoSuchElementException" "java/util/NoSuchElementException") (by decide +kernel))) h1 h2 h3 ?_
      rw [e3.2.2.1]
      refine lv_astore (lv' := [(4, .ref q9), (0, .ref (E.a 0)), (1, .int p1), (2, .int p2), (3, .ref ao)]) hx hb dL_shopOf_21 hl (by decide) rfl (fun ls hl => ?_)
      refine lv_iconst (v := 3) hx hb dL_shopOf_23 (by decide) ?_
      exact x_wiret hx hb hr hlk hw rfl (Nat.le_of_ble_eq_true rfl) (Nat.le_of_ble_eq_true rfl) dL_shopOf_24

abbrev rmL_wayBack : Room := { frames := 8, cells := 1, slots := 6, locals := 132 }
set_option maxRecDepth 100000 in
set_option maxHeartbeats 4000000 in
theorem mL_wayBack {l : Launch} (hl0 : l.stackTraces = false) {E : xE} (hE : E.sh = shX) (ao : Nat) (cL : ClassId) (p1 : Int32) (p2 : Int32) (σ : xSt) (fo : Nat → Int64) (o : xO) (σ1 : xSt) (hf : fX11_wayBack p1 p2 σ = some (o, σ1)) (hk : ∀ k, o = .inr k → k = 1) : xMw l yL_wayBack wsL_wayBack rmL_wayBack E ao cL [.ref (E.a 0), .int p1, .int p2, .ref ao] σ fo (xcd 9 1 9 9 o) σ1 (xou fo o) 1 := by
  refine xMw_of (cc := cL_wayBack) (maxL := 5) (ret := some .int) (by decide) rfl (Nat.le_of_ble_eq_true rfl) ?_
  intro p e s m args below meth c A ls ⟨hx, hb, hr, hml, hown, hts, hlk⟩ hA hG hN htab hw hl
  have hown : s.vm.findClass RL = some m.cls := hown
  have hl : lv_has ls 5 [(0, .ref (E.a 0)), (1, .int p1), (2, .int p2), (3, .ref ao)] := hl
  refine lv_aload_n hx hb dL_wayBack_0 rfl (lv_at hl 3 rfl) ?_
  refine lv_iconst (v := 0) hx hb dL_wayBack_1 (by decide) ?_
  refine lv_aload_n hx hb dL_wayBack_2 rfl (lv_at hl 0 rfl) ?_
  refine lv_iload_n hx hb dL_wayBack_3 rfl (lv_at hl 1 rfl) ?_
  refine lv_iload_n hx hb dL_wayBack_4 rfl (lv_at hl 2 rfl) ?_
  cases o with
  | inl v =>
    refine x_tcalli (vx_runV (As := [.int p1, .int p2]) (rest := [.int 0, .ref ao]) ⟨hx, hb, hml, hown, hts⟩ (mX11_wayBack hl0 (E := xEO E ao cL fo) hE p1 p2 σ (.inl v) σ1 hf s.heap.size) (cwV 2 hts gL_wayBack_X11_wayBack rfl rfl rfl (by decide +kernel) ⟨Nat.le_of_ble_eq_true rfl, Nat.le_of_ble_eq_true rfl⟩) (x_preV _ hw.in hA hG (cX0 hE) rfl) rfl rfl hl.1 rfl (lv_room (Nat.le_of_ble_eq_true rfl)) dL_wayBack_5 ⟨Nat.le_of_ble_eq_true rfl, Nat.le_of_ble_eq_true rfl⟩) hw.in hA (fun q9 ce H locs h1 h2 h3 hw => by obtain ⟨_, h9, _⟩ := h3; cases h9) (fun r9 H locs h1 hw9 => ?_)
    obtain rfl := Sum.inl.inj h1
    have hw := xwW.of hw.1 hw9
    refine lv_i2l hx hb dL_wayBack_8 rfl ?_
    refine x_wlast hx hb hw dL_wayBack_9 (fun H locs hw => ?_)
    refine lv_goto (tgt := 17) hx hb dL_wayBack_10 (by decide) ?_
    refine lv_iconst (v := 0) hx hb dL_wayBack_17 (by decide) ?_
    exact x_wiret hx hb hr hlk hw rfl (Nat.le_of_ble_eq_true rfl) (Nat.le_of_ble_eq_true rfl) dL_wayBack_18
  | inr k =>
    obtain ⟨x1, het, e1⟩ := x_t1 htab
    simp only [Prod.mk.injEq] at e1
    rcases hk k rfl with rfl
    · refine x_tcalli (vx_runV (As := [.int p1, .int p2]) (rest := [.int 0, .ref ao]) ⟨hx, hb, hml, hown, hts⟩ (mX11_wayBack hl0 (E := xEO E ao cL fo) hE p1 p2 σ (.inr 1) σ1 hf s.heap.size) (cwV 2 hts gL_wayBack_X11_wayBack rfl rfl rfl (by decide +kernel) ⟨Nat.le_of_ble_eq_true rfl, Nat.le_of_ble_eq_true rfl⟩) (x_preV _ hw.in hA hG (cX0 hE) rfl) rfl rfl hl.1 rfl (lv_room (Nat.le_of_ble_eq_true rfl)) dL_wayBack_5 ⟨Nat.le_of_ble_eq_true rfl, Nat.le_of_ble_eq_true rfl⟩) hw.in hA (fun q9 ce H locs h1 h2 h3 hw9 => ?_) (fun r9 H locs h1 hw9 => nomatch h1)
      have hw := xwW.of hw.1 hw9
      obtain ⟨k9, h9, h3⟩ := h3
      obtain rfl := Sum.inr.inj h9
      refine vx_catch (E := xcls 1) (name := xcls 1) hown [] x1 [] (by rw [het]; rfl) (fun z hz => by cases hz) (by rw [covers, e1.1, e1.2.1]; decide) (by rw [e1.2.2.2]; decide) (by rw [e1.2.2.2]; exact hts (.classLink RL 15 "java/lang/IllegalArgumentException") (by decide +kernel)) (va_Nw.use (by decide +kernel) (hG.1 (.castable "java/lang/IllegalArgumentException" "java/lang/IllegalArgumentException") (by decide +kernel))) h1 h2 h3 ?_
      rw [e1.2.2.1]
      refine lv_astore (lv' := [(4, .ref q9), (0, .ref (E.a 0)), (1, .int p1), (2, .int p2), (3, .ref ao)]) hx hb dL_wayBack_13 hl (by decide) rfl (fun ls hl => ?_)
      refine lv_iconst (v := 1) hx hb dL_wayBack_15 (by decide) ?_
      exact x_wiret hx hb hr hlk hw rfl (Nat.le_of_ble_eq_true rfl) (Nat.le_of_ble_eq_true rfl) dL_wayBack_16

abbrev rmL_cleaning : Room := { frames := 14, cells := 1, slots := 6, locals := 413 }
set_option maxRecDepth 100000 in
set_option maxHeartbeats 4000000 in
theorem mL_cleaning {l : Launch} (hl0 : l.stackTraces = false) {E : xE} (hE : E.sh = shX) (ao : Nat) (cL : ClassId) (p1 : Int32) (σ : xSt) (fo : Nat → Int64) (o : xO) (σ1 : xSt) (hf : fX11_cleaning p1 σ = some (o, σ1)) (hk : ∀ k, o = .inr k → k = 1) : xMw l yL_cleaning wsL_cleaning rmL_cleaning E ao cL [.ref (E.a 0), .int p1, .ref ao] σ fo (xcd 9 1 9 9 o) σ1 (xou fo o) 1 := by
  refine xMw_of (cc := cL_cleaning) (maxL := 4) (ret := some .int) (by decide) rfl (Nat.le_of_ble_eq_true rfl) ?_
  intro p e s m args below meth c A ls ⟨hx, hb, hr, hml, hown, hts, hlk⟩ hA hG hN htab hw hl
  have hown : s.vm.findClass RL = some m.cls := hown
  have hl : lv_has ls 4 [(0, .ref (E.a 0)), (1, .int p1), (2, .ref ao)] := hl
  refine lv_aload_n hx hb dL_cleaning_0 rfl (lv_at hl 2 rfl) ?_
  refine lv_iconst (v := 0) hx hb dL_cleaning_1 (by decide) ?_
  refine lv_aload_n hx hb dL_cleaning_2 rfl (lv_at hl 0 rfl) ?_
  refine lv_iload_n hx hb dL_cleaning_3 rfl (lv_at hl 1 rfl) ?_
  cases o with
  | inl v =>
    refine x_tcalli (vx_runV (As := [.int p1]) (rest := [.int 0, .ref ao]) ⟨hx, hb, hml, hown, hts⟩ (mX11_cleaning hl0 (E := xEO E ao cL fo) hE p1 σ (.inl v) σ1 hf s.heap.size) (cwV 1 hts gL_cleaning_X11_cleaning rfl rfl rfl (by decide +kernel) ⟨Nat.le_of_ble_eq_true rfl, Nat.le_of_ble_eq_true rfl⟩) (x_preV _ hw.in hA hG (cX0 hE) rfl) rfl rfl hl.1 rfl (lv_room (Nat.le_of_ble_eq_true rfl)) dL_cleaning_4 ⟨Nat.le_of_ble_eq_true rfl, Nat.le_of_ble_eq_true rfl⟩) hw.in hA (fun q9 ce H locs h1 h2 h3 hw => by obtain ⟨_, h9, _⟩ := h3; cases h9) (fun r9 H locs h1 hw9 => ?_)
    obtain rfl := Sum.inl.inj h1
    have hw := xwW.of hw.1 hw9
    refine lv_i2l hx hb dL_cleaning_7 rfl ?_
    refine x_wlast hx hb hw dL_cleaning_8 (fun H locs hw => ?_)
    refine lv_goto (tgt := 15) hx hb dL_cleaning_9 (by decide) ?_
    refine lv_iconst (v := 0) hx hb dL_cleaning_15 (by decide) ?_
    exact x_wiret hx hb hr hlk hw rfl (Nat.le_of_ble_eq_true rfl) (Nat.le_of_ble_eq_true rfl) dL_cleaning_16
  | inr k =>
    obtain ⟨x1, het, e1⟩ := x_t1 htab
    simp only [Prod.mk.injEq] at e1
    rcases hk k rfl with rfl
    · refine x_tcalli (vx_runV (As := [.int p1]) (rest := [.int 0, .ref ao]) ⟨hx, hb, hml, hown, hts⟩ (mX11_cleaning hl0 (E := xEO E ao cL fo) hE p1 σ (.inr 1) σ1 hf s.heap.size) (cwV 1 hts gL_cleaning_X11_cleaning rfl rfl rfl (by decide +kernel) ⟨Nat.le_of_ble_eq_true rfl, Nat.le_of_ble_eq_true rfl⟩) (x_preV _ hw.in hA hG (cX0 hE) rfl) rfl rfl hl.1 rfl (lv_room (Nat.le_of_ble_eq_true rfl)) dL_cleaning_4 ⟨Nat.le_of_ble_eq_true rfl, Nat.le_of_ble_eq_true rfl⟩) hw.in hA (fun q9 ce H locs h1 h2 h3 hw9 => ?_) (fun r9 H locs h1 hw9 => nomatch h1)
      have hw := xwW.of hw.1 hw9
      obtain ⟨k9, h9, h3⟩ := h3
      obtain rfl := Sum.inr.inj h9
      refine vx_catch (E := xcls 1) (name := xcls 1) hown [] x1 [] (by rw [het]; rfl) (fun z hz => by cases hz) (by rw [covers, e1.1, e1.2.1]; decide) (by rw [e1.2.2.2]; decide) (by rw [e1.2.2.2]; exact hts (.classLink RL 15 "java/lang/IllegalArgumentException") (by decide +kernel)) (va_Nw.use (by decide +kernel) (hG.1 (.castable "java/lang/IllegalArgumentException" "java/lang/IllegalArgumentException") (by decide +kernel))) h1 h2 h3 ?_
      rw [e1.2.2.1]
      refine lv_astore_n (lv' := [(3, .ref q9), (0, .ref (E.a 0)), (1, .int p1), (2, .ref ao)]) hx hb dL_cleaning_12 rfl hl (by decide) rfl (fun ls hl => ?_)
      refine lv_iconst (v := 1) hx hb dL_cleaning_13 (by decide) ?_
      exact x_wiret hx hb hr hlk hw rfl (Nat.le_of_ble_eq_true rfl) (Nat.le_of_ble_eq_true rfl) dL_cleaning_14

abbrev rmL_rowAt : Room := { frames := 14, cells := 2, slots := 12, locals := 414 }
set_option maxRecDepth 100000 in
set_option maxHeartbeats 4000000 in
theorem mL_rowAt {l : Launch} (hl0 : l.stackTraces = false) {E : xE} (hE : E.sh = shX) (ao : Nat) (cL : ClassId) (p1 : Int32) (p2 : Int32) (σ : xSt) (fo : Nat → Int64) (o : xO) (σ1 : xSt) (hf : fX11_rowAt p1 p2 σ = some (o, σ1)) (hk : ∀ k, o = .inr k → k = 1 ∨ k = 0) : xMw l yL_rowAt wsL_rowAt rmL_rowAt E ao cL [.ref (E.a 0), .int p1, .int p2, .ref ao] σ fo (xcd 2 1 9 9 o) σ1 (xou fo o) 2 := by
  refine xMw_of (cc := cL_rowAt) (maxL := 5) (ret := some .int) (by decide) rfl (Nat.le_of_ble_eq_true rfl) ?_
  intro p e s m args below meth c A ls ⟨hx, hb, hr, hml, hown, hts, hlk⟩ hA hG hN htab hw hl
  have hown : s.vm.findClass RL = some m.cls := hown
  have hl : lv_has ls 5 [(0, .ref (E.a 0)), (1, .int p1), (2, .int p2), (3, .ref ao)] := hl
  refine lv_aload_n hx hb dL_rowAt_0 rfl (lv_at hl 3 rfl) ?_
  refine lv_iconst (v := 0) hx hb dL_rowAt_1 (by decide) ?_
  refine lv_aload_n hx hb dL_rowAt_2 rfl (lv_at hl 0 rfl) ?_
  refine lv_iload_n hx hb dL_rowAt_3 rfl (lv_at hl 1 rfl) ?_
  refine lv_iload_n hx hb dL_rowAt_4 rfl (lv_at hl 2 rfl) ?_
  cases o with
  | inl v =>
    refine x_tcalli (vx_runV (As := [.int p1, .int p2]) (rest := [.int 0, .ref ao]) ⟨hx, hb, hml, hown, hts⟩ (mX11_rowAt hl0 (E := xEO E ao cL fo) hE p1 p2 σ (.inl v) σ1 hf s.heap.size) (cwV 2 hts gL_rowAt_X11_rowAt rfl rfl rfl (by decide +kernel) ⟨Nat.le_of_ble_eq_true rfl, Nat.le_of_ble_eq_true rfl⟩) (x_preV _ hw.in hA hG (cX0 hE) rfl) rfl rfl hl.1 rfl (lv_room (Nat.le_of_ble_eq_true rfl)) dL_rowAt_5 ⟨Nat.le_of_ble_eq_true rfl, Nat.le_of_ble_eq_true rfl⟩) hw.in hA (fun q9 ce H locs h1 h2 h3 hw => by obtain ⟨_, h9, _⟩ := h3; cases h9) (fun r9 H locs h1 hw9 => ?_)
    obtain rfl := Sum.inl.inj h1
    have hw := xwW.of hw.1 hw9
    refine lv_i2l hx hb dL_rowAt_8 rfl ?_
    refine x_wlast hx hb hw dL_rowAt_9 (fun H locs hw => ?_)
    refine lv_goto (tgt := 21) hx hb dL_rowAt_10 (by decide) ?_
    refine lv_iconst (v := 0) hx hb dL_rowAt_21 (by decide) ?_
    exact x_wiret hx hb hr hlk hw rfl (Nat.le_of_ble_eq_true rfl) (Nat.le_of_ble_eq_true rfl) dL_rowAt_22
  | inr k =>
    obtain ⟨x1, x2, het, e1, e2⟩ := x_t2 htab
    simp only [Prod.mk.injEq] at e1 e2
    rcases hk k rfl with rfl | rfl
    · refine x_tcalli (vx_runV (As := [.int p1, .int p2]) (rest := [.int 0, .ref ao]) ⟨hx, hb, hml, hown, hts⟩ (mX11_rowAt hl0 (E := xEO E ao cL fo) hE p1 p2 σ (.inr 1) σ1 hf s.heap.size) (cwV 2 hts gL_rowAt_X11_rowAt rfl rfl rfl (by decide +kernel) ⟨Nat.le_of_ble_eq_true rfl, Nat.le_of_ble_eq_true rfl⟩) (x_preV _ hw.in hA hG (cX0 hE) rfl) rfl rfl hl.1 rfl (lv_room (Nat.le_of_ble_eq_true rfl)) dL_rowAt_5 ⟨Nat.le_of_ble_eq_true rfl, Nat.le_of_ble_eq_true rfl⟩) hw.in hA (fun q9 ce H locs h1 h2 h3 hw9 => ?_) (fun r9 H locs h1 hw9 => nomatch h1)
      have hw := xwW.of hw.1 hw9
      obtain ⟨k9, h9, h3⟩ := h3
      obtain rfl := Sum.inr.inj h9
      refine vx_catch (E := xcls 1) (name := xcls 1) hown [] x1 [x2] (by rw [het]; rfl) (fun z hz => by cases hz) (by rw [covers, e1.1, e1.2.1]; decide) (by rw [e1.2.2.2]; decide) (by rw [e1.2.2.2]; exact hts (.classLink RL 15 "java/lang/IllegalArgumentException") (by decide +kernel)) (va_Nw.use (by decide +kernel) (hG.1 (.castable "java/lang/IllegalArgumentException" "java/lang/IllegalArgumentException") (by decide +kernel))) h1 h2 h3 ?_
      rw [e1.2.2.1]
      refine lv_astore (lv' := [(4, .ref q9), (0, .ref (E.a 0)), (1, .int p1), (2, .int p2), (3, .ref ao)]) hx hb dL_rowAt_13 hl (by decide) rfl (fun ls hl => ?_)
      refine lv_iconst (v := 1) hx hb dL_rowAt_15 (by decide) ?_
      exact x_wiret hx hb hr hlk hw rfl (Nat.le_of_ble_eq_true rfl) (Nat.le_of_ble_eq_true rfl) dL_rowAt_16
    · refine x_tcalli (vx_runV (As := [.int p1, .int p2]) (rest := [.int 0, .ref ao]) ⟨hx, hb, hml, hown, hts⟩ (mX11_rowAt hl0 (E := xEO E ao cL fo) hE p1 p2 σ (.inr 0) σ1 hf s.heap.size) (cwV 2 hts gL_rowAt_X11_rowAt rfl rfl rfl (by decide +kernel) ⟨Nat.le_of_ble_eq_true rfl, Nat.le_of_ble_eq_true rfl⟩) (x_preV _ hw.in hA hG (cX0 hE) rfl) rfl rfl hl.1 rfl (lv_room (Nat.le_of_ble_eq_true rfl)) dL_rowAt_5 ⟨Nat.le_of_ble_eq_true rfl, Nat.le_of_ble_eq_true rfl⟩) hw.in hA (fun q9 ce H locs h1 h2 h3 hw9 => ?_) (fun r9 H locs h1 hw9 => nomatch h1)
      have hw := xwW.of hw.1 hw9
      obtain ⟨k9, h9, h3⟩ := h3
      obtain rfl := Sum.inr.inj h9
      refine vx_catch (E := xcls 0) (name := xcls 0) hown [x1] x2 [] (by rw [het]; rfl) (fun z hz => by simp only [List.mem_cons, List.not_mem_nil, or_false] at hz; subst hz; exact Or.inr ⟨by rw [e1.2.2.2]; decide, xcls 1, by rw [e1.2.2.2]; exact hts (.classLink RL 15 "java/lang/IllegalArgumentException") (by decide +kernel), hN 0 (by decide) 1 (by decide) (by decide)⟩) (by rw [covers, e2.1, e2.2.1]; decide) (by rw [e2.2.2.2]; decide) (by rw [e2.2.2.2]; exact hts (.classLink RL 13 "java/lang/IndexOutOfBoundsException") (by decide +kernel)) (va_Nw.use (by decide +kernel) (hG.1 (.castable "java/lang/IndexOutOfBoundsException" "java/lang/IndexOutOfBoundsException") (by decide +kernel))) h1 h2 h3 ?_
      rw [e2.2.2.1]
      refine lv_astore (lv' := [(4, .ref q9), (0, .ref (E.a 0)), (1, .int p1), (2, .int p2), (3, .ref ao)]) hx hb dL_rowAt_17 hl (by decide) rfl (fun ls hl => ?_)
      refine lv_iconst (v := 2) hx hb dL_rowAt_19 (by decide) ?_
      exact x_wiret hx hb hr hlk hw rfl (Nat.le_of_ble_eq_true rfl) (Nat.le_of_ble_eq_true rfl) dL_rowAt_20

abbrev rmL_book : Room := { frames := 8, cells := 1, slots := 6, locals := 131 }
set_option maxRecDepth 100000 in
set_option maxHeartbeats 4000000 in
theorem mL_book {l : Launch} (hl0 : l.stackTraces = false) {E : xE} (hE : E.sh = shX) (ao : Nat) (cL : ClassId) (p1 : Int32) (σ : xSt) (fo : Nat → Int64) (o : xO) (σ1 : xSt) (hf : fX11_book p1 σ = some (o, σ1)) (hk : ∀ k, o = .inr k → k = 1) : xMw l yL_book wsL_book rmL_book E ao cL [.ref (E.a 0), .int p1, .ref ao] σ fo (xcd 9 1 9 9 o) σ1 (xou fo o) 1 := by
  refine xMw_of (cc := cL_book) (maxL := 4) (ret := some .int) (by decide) rfl (Nat.le_of_ble_eq_true rfl) ?_
  intro p e s m args below meth c A ls ⟨hx, hb, hr, hml, hown, hts, hlk⟩ hA hG hN htab hw hl
  have hown : s.vm.findClass RL = some m.cls := hown
  have hl : lv_has ls 4 [(0, .ref (E.a 0)), (1, .int p1), (2, .ref ao)] := hl
  refine lv_aload_n hx hb dL_book_0 rfl (lv_at hl 2 rfl) ?_
  refine lv_iconst (v := 0) hx hb dL_book_1 (by decide) ?_
  refine lv_aload_n hx hb dL_book_2 rfl (lv_at hl 0 rfl) ?_
  refine lv_iload_n hx hb dL_book_3 rfl (lv_at hl 1 rfl) ?_
  cases o with
  | inl v =>
    refine x_tcalli (vx_runV (As := [.int p1]) (rest := [.int 0, .ref ao]) ⟨hx, hb, hml, hown, hts⟩ (mX11_book hl0 (E := xEO E ao cL fo) hE p1 σ (.inl v) σ1 hf s.heap.size) (cwV 1 hts gL_book_X11_book rfl rfl rfl (by decide +kernel) ⟨Nat.le_of_ble_eq_true rfl, Nat.le_of_ble_eq_true rfl⟩) (x_preV _ hw.in hA hG (cX0 hE) rfl) rfl rfl hl.1 rfl (lv_room (Nat.le_of_ble_eq_true rfl)) dL_book_4 ⟨Nat.le_of_ble_eq_true rfl, Nat.le_of_ble_eq_true rfl⟩) hw.in hA (fun q9 ce H locs h1 h2 h3 hw => by obtain ⟨_, h9, _⟩ := h3; cases h9) (fun r9 H locs h1 hw9 => ?_)
    obtain rfl := Sum.inl.inj h1
    have hw := xwW.of hw.1 hw9
    refine lv_i2l hx hb dL_book_7 rfl ?_
    refine x_wlast hx hb hw dL_book_8 (fun H locs hw => ?_)
    refine lv_goto (tgt := 15) hx hb dL_book_9 (by decide) ?_
    refine lv_iconst (v := 0) hx hb dL_book_15 (by decide) ?_
    exact x_wiret hx hb hr hlk hw rfl (Nat.le_of_ble_eq_true rfl) (Nat.le_of_ble_eq_true rfl) dL_book_16
  | inr k =>
    obtain ⟨x1, het, e1⟩ := x_t1 htab
    simp only [Prod.mk.injEq] at e1
    rcases hk k rfl with rfl
    · refine x_tcalli (vx_runV (As := [.int p1]) (rest := [.int 0, .ref ao]) ⟨hx, hb, hml, hown, hts⟩ (mX11_book hl0 (E := xEO E ao cL fo) hE p1 σ (.inr 1) σ1 hf s.heap.size) (cwV 1 hts gL_book_X11_book rfl rfl rfl (by decide +kernel) ⟨Nat.le_of_ble_eq_true rfl, Nat.le_of_ble_eq_true rfl⟩) (x_preV _ hw.in hA hG (cX0 hE) rfl) rfl rfl hl.1 rfl (lv_room (Nat.le_of_ble_eq_true rfl)) dL_book_4 ⟨Nat.le_of_ble_eq_true rfl, Nat.le_of_ble_eq_true rfl⟩) hw.in hA (fun q9 ce H locs h1 h2 h3 hw9 => ?_) (fun r9 H locs h1 hw9 => nomatch h1)
      have hw := xwW.of hw.1 hw9
      obtain ⟨k9, h9, h3⟩ := h3
      obtain rfl := Sum.inr.inj h9
      refine vx_catch (E := xcls 1) (name := xcls 1) hown [] x1 [] (by rw [het]; rfl) (fun z hz => by cases hz) (by rw [covers, e1.1, e1.2.1]; decide) (by rw [e1.2.2.2]; decide) (by rw [e1.2.2.2]; exact hts (.classLink RL 15 "java/lang/IllegalArgumentException") (by decide +kernel)) (va_Nw.use (by decide +kernel) (hG.1 (.castable "java/lang/IllegalArgumentException" "java/lang/IllegalArgumentException") (by decide +kernel))) h1 h2 h3 ?_
      rw [e1.2.2.1]
      refine lv_astore_n (lv' := [(3, .ref q9), (0, .ref (E.a 0)), (1, .int p1), (2, .ref ao)]) hx hb dL_book_12 rfl hl (by decide) rfl (fun ls hl => ?_)
      refine lv_iconst (v := 1) hx hb dL_book_13 (by decide) ?_
      exact x_wiret hx hb hr hlk hw rfl (Nat.le_of_ble_eq_true rfl) (Nat.le_of_ble_eq_true rfl) dL_book_14

abbrev rmL_type : Room := { frames := 8, cells := 2, slots := 12, locals := 133 }
set_option maxRecDepth 100000 in
set_option maxHeartbeats 4000000 in
theorem mL_type {l : Launch} (hl0 : l.stackTraces = false) {E : xE} (hE : E.sh = shX) (ao : Nat) (cL : ClassId) (p1 : Int64) (σ : xSt) (fo : Nat → Int64) (o : xO) (σ1 : xSt) (hf : fX11_type p1 σ = some (o, σ1)) (hk : ∀ k, o = .inr k → k = 1 ∨ k = 2) : xMw l yL_type wsL_type rmL_type E ao cL [.ref (E.a 0), .long p1, .ref ao] σ fo (xcd 9 1 2 9 o) σ1 (xou fo o) 2 := by
  refine xMw_of (cc := cL_type) (maxL := 5) (ret := some .int) (by decide) rfl (Nat.le_of_ble_eq_true rfl) ?_
  intro p e s m args below meth c A ls ⟨hx, hb, hr, hml, hown, hts, hlk⟩ hA hG hN htab hw hl
  have hown : s.vm.findClass RL = some m.cls := hown
  have hl : lv_has ls 5 [(0, .ref (E.a 0)), (1, .long p1), (3, .ref ao)] := hl
  refine lv_aload_n hx hb dL_type_0 rfl (lv_at hl 2 rfl) ?_
  refine lv_iconst (v := 0) hx hb dL_type_1 (by decide) ?_
  refine lv_aload_n hx hb dL_type_2 rfl (lv_at hl 0 rfl) ?_
  refine lv_lload_n hx hb dL_type_3 rfl (lv_at hl 1 rfl) ?_
  cases o with
  | inl v =>
    refine x_tcalli (vx_runV (As := [.long p1]) (rest := [.int 0, .ref ao]) ⟨hx, hb, hml, hown, hts⟩ (mX11_type hl0 (E := xEO E ao cL fo) hE p1 σ (.inl v) σ1 hf s.heap.size) (cwV 1 hts gL_type_X11_type rfl rfl rfl (by decide +kernel) ⟨Nat.le_of_ble_eq_true rfl, Nat.le_of_ble_eq_true rfl⟩) (x_preV _ hw.in hA hG (cX0 hE) rfl) rfl rfl hl.1 rfl (lv_room (Nat.le_of_ble_eq_true rfl)) dL_type_4 ⟨Nat.le_of_ble_eq_true rfl, Nat.le_of_ble_eq_true rfl⟩) hw.in hA (fun q9 ce H locs h1 h2 h3 hw => by obtain ⟨_, h9, _⟩ := h3; cases h9) (fun r9 H locs h1 hw9 => ?_)
    obtain rfl := Sum.inl.inj h1
    have hw := xwW.of hw.1 hw9
    refine lv_i2l hx hb dL_type_7 rfl ?_
    refine x_wlast hx hb hw dL_type_8 (fun H locs hw => ?_)
    refine lv_goto (tgt := 20) hx hb dL_type_9 (by decide) ?_
    refine lv_iconst (v := 0) hx hb dL_type_20 (by decide) ?_
    exact x_wiret hx hb hr hlk hw rfl (Nat.le_of_ble_eq_true rfl) (Nat.le_of_ble_eq_true rfl) dL_type_21
  | inr k =>
    obtain ⟨x1, x2, het, e1, e2⟩ := x_t2 htab
    simp only [Prod.mk.injEq] at e1 e2
    rcases hk k rfl with rfl | rfl
    · refine x_tcalli (vx_runV (As := [.long p1]) (rest := [.int 0, .ref ao]) ⟨hx, hb, hml, hown, hts⟩ (mX11_type hl0 (E := xEO E ao cL fo) hE p1 σ (.inr 1) σ1 hf s.heap.size) (cwV 1 hts gL_type_X11_type rfl rfl rfl (by decide +kernel) ⟨Nat.le_of_ble_eq_true rfl, Nat.le_of_ble_eq_true rfl⟩) (x_preV _ hw.in hA hG (cX0 hE) rfl) rfl rfl hl.1 rfl (lv_room (Nat.le_of_ble_eq_true rfl)) dL_type_4 ⟨Nat.le_of_ble_eq_true rfl, Nat.le_of_ble_eq_true rfl⟩) hw.in hA (fun q9 ce H locs h1 h2 h3 hw9 => ?_) (fun r9 H locs h1 hw9 => nomatch h1)
      have hw := xwW.of hw.1 hw9
      obtain ⟨k9, h9, h3⟩ := h3
      obtain rfl := Sum.inr.inj h9
      refine vx_catch (E := xcls 1) (name := xcls 1) hown [] x1 [x2] (by rw [het]; rfl) (fun z hz => by cases hz) (by rw [covers, e1.1, e1.2.1]; decide) (by rw [e1.2.2.2]; decide) (by rw [e1.2.2.2]; exact hts (.classLink RL 15 "java/lang/IllegalArgumentException") (by decide +kernel)) (va_Nw.use (by decide +kernel) (hG.1 (.castable "java/lang/IllegalArgumentException" "java/lang/IllegalArgumentException") (by decide +kernel))) h1 h2 h3 ?_
      rw [e1.2.2.1]
      refine lv_astore (lv' := [(4, .ref q9), (0, .ref (E.a 0)), (1, .long p1), (3, .ref ao)]) hx hb dL_type_12 hl (by decide) rfl (fun ls hl => ?_)
      refine lv_iconst (v := 1) hx hb dL_type_14 (by decide) ?_
      exact x_wiret hx hb hr hlk hw rfl (Nat.le_of_ble_eq_true rfl) (Nat.le_of_ble_eq_true rfl) dL_type_15
    · refine x_tcalli (vx_runV (As := [.long p1]) (rest := [.int 0, .ref ao]) ⟨hx, hb, hml, hown, hts⟩ (mX11_type hl0 (E := xEO E ao cL fo) hE p1 σ (.inr 2) σ1 hf s.heap.size) (cwV 1 hts gL_type_X11_type rfl rfl rfl (by decide +kernel) ⟨Nat.le_of_ble_eq_true rfl, Nat.le_of_ble_eq_true rfl⟩) (x_preV _ hw.in hA hG (cX0 hE) rfl) rfl rfl hl.1 rfl (lv_room (Nat.le_of_ble_eq_true rfl)) dL_type_4 ⟨Nat.le_of_ble_eq_true rfl, Nat.le_of_ble_eq_true rfl⟩) hw.in hA (fun q9 ce H locs h1 h2 h3 hw9 => ?_) (fun r9 H locs h1 hw9 => nomatch h1)
      have hw := xwW.of hw.1 hw9
      obtain ⟨k9, h9, h3⟩ := h3
      obtain rfl := Sum.inr.inj h9
      refine vx_catch (E := xcls 2) (name := xcls 2) hown [x1] x2 [] (by rw [het]; rfl) (fun z hz => by simp only [List.mem_cons, List.not_mem_nil, or_false] at hz; subst hz; exact Or.inr ⟨by rw [e1.2.2.2]; decide, xcls 1, by rw [e1.2.2.2]; exact hts (.classLink RL 15 "java/lang/IllegalArgumentException") (by decide +kernel), hN 2 (by decide) 1 (by decide) (by decide)⟩) (by rw [covers, e2.1, e2.2.1]; decide) (by rw [e2.2.2.2]; decide) (by rw [e2.2.2.2]; exact hts (.classLink RL 17 "java/lang/IllegalStateException") (by decide +kernel)) (va_Nw.use (by decide +kernel) (hG.1 (.castable "java/lang/IllegalStateException" "java/lang/IllegalStateException") (by decide +kernel))) h1 h2 h3 ?_
      rw [e2.2.2.1]
      refine lv_astore (lv' := [(4, .ref q9), (0, .ref (E.a 0)), (1, .long p1), (3, .ref ao)]) hx hb dL_type_16 hl (by decide) rfl (fun ls hl => ?_)
      refine lv_iconst (v := 2) hx hb dL_type_18 (by decide) ?_
      exact x_wiret hx hb hr hlk hw rfl (Nat.le_of_ble_eq_true rfl) (Nat.le_of_ble_eq_true rfl) dL_type_19

abbrev rmL_undo : Room := { frames := 8, cells := 1, slots := 6, locals := 160 }
set_option maxRecDepth 100000 in
set_option maxHeartbeats 4000000 in
theorem mL_undo {l : Launch} (hl0 : l.stackTraces = false) {E : xE} (hE : E.sh = shX) (ao : Nat) (cL : ClassId) (σ : xSt) (fo : Nat → Int64) (o : xO) (σ1 : xSt) (hf : fX11_undo σ = some (o, σ1)) (hk : ∀ k, o = .inr k → k = 2) : xMw l yL_undo wsL_undo rmL_undo E ao cL [.ref (E.a 0), .ref ao] σ fo (xcd 9 9 1 9 o) σ1 (xou fo o) 1 := by
  refine xMw_of (cc := cL_undo) (maxL := 3) (ret := some .int) (by decide) rfl (Nat.le_of_ble_eq_true rfl) ?_
  intro p e s m args below meth c A ls ⟨hx, hb, hr, hml, hown, hts, hlk⟩ hA hG hN htab hw hl
  have hown : s.vm.findClass RL = some m.cls := hown
  have hl : lv_has ls 3 [(0, .ref (E.a 0)), (1, .ref ao)] := hl
  refine lv_aload_n hx hb dL_undo_0 rfl (lv_at hl 1 rfl) ?_
  refine lv_iconst (v := 0) hx hb dL_undo_1 (by decide) ?_
  refine lv_aload_n hx hb dL_undo_2 rfl (lv_at hl 0 rfl) ?_
  cases o with
  | inl v =>
    refine x_tcalli (vx_runV (As := []) (rest := [.int 0, .ref ao]) ⟨hx, hb, hml, hown, hts⟩ (mX11_undo hl0 (E := xEO E ao cL fo) hE σ (.inl v) σ1 hf s.heap.size) (cwV 0 hts gL_undo_X11_undo rfl rfl rfl (by decide +kernel) ⟨Nat.le_of_ble_eq_true rfl, Nat.le_of_ble_eq_true rfl⟩) (x_preV _ hw.in hA hG (cX0 hE) rfl) rfl rfl hl.1 rfl (lv_room (Nat.le_of_ble_eq_true rfl)) dL_undo_3 ⟨Nat.le_of_ble_eq_true rfl, Nat.le_of_ble_eq_true rfl⟩) hw.in hA (fun q9 ce H locs h1 h2 h3 hw => by obtain ⟨_, h9, _⟩ := h3; cases h9) (fun r9 H locs h1 hw9 => ?_)
    obtain rfl := Sum.inl.inj h1
    have hw := xwW.of hw.1 hw9
    refine lv_i2l hx hb dL_undo_6 rfl ?_
    refine x_wlast hx hb hw dL_undo_7 (fun H locs hw => ?_)
    refine lv_goto (tgt := 14) hx hb dL_undo_8 (by decide) ?_
    refine lv_iconst (v := 0) hx hb dL_undo_14 (by decide) ?_
    exact x_wiret hx hb hr hlk hw rfl (Nat.le_of_ble_eq_true rfl) (Nat.le_of_ble_eq_true rfl) dL_undo_15
  | inr k =>
    obtain ⟨x1, het, e1⟩ := x_t1 htab
    simp only [Prod.mk.injEq] at e1
    rcases hk k rfl with rfl
    · refine x_tcalli (vx_runV (As := []) (rest := [.int 0, .ref ao]) ⟨hx, hb, hml, hown, hts⟩ (mX11_undo hl0 (E := xEO E ao cL fo) hE σ (.inr 2) σ1 hf s.heap.size) (cwV 0 hts gL_undo_X11_undo rfl rfl rfl (by decide +kernel) ⟨Nat.le_of_ble_eq_true rfl, Nat.le_of_ble_eq_true rfl⟩) (x_preV _ hw.in hA hG (cX0 hE) rfl) rfl rfl hl.1 rfl (lv_room (Nat.le_of_ble_eq_true rfl)) dL_undo_3 ⟨Nat.le_of_ble_eq_true rfl, Nat.le_of_ble_eq_true rfl⟩) hw.in hA (fun q9 ce H locs h1 h2 h3 hw9 => ?_) (fun r9 H locs h1 hw9 => nomatch h1)
      have hw := xwW.of hw.1 hw9
      obtain ⟨k9, h9, h3⟩ := h3
      obtain rfl := Sum.inr.inj h9
      refine vx_catch (E := xcls 2) (name := xcls 2) hown [] x1 [] (by rw [het]; rfl) (fun z hz => by cases hz) (by rw [covers, e1.1, e1.2.1]; decide) (by rw [e1.2.2.2]; decide) (by rw [e1.2.2.2]; exact hts (.classLink RL 17 "java/lang/IllegalStateException") (by decide +kernel)) (va_Nw.use (by decide +kernel) (hG.1 (.castable "java/lang/IllegalStateException" "java/lang/IllegalStateException") (by decide +kernel))) h1 h2 h3 ?_
      rw [e1.2.2.1]
      refine lv_astore_n (lv' := [(2, .ref q9), (0, .ref (E.a 0)), (1, .ref ao)]) hx hb dL_undo_11 rfl hl (by decide) rfl (fun ls hl => ?_)
      refine lv_iconst (v := 1) hx hb dL_undo_12 (by decide) ?_
      exact x_wiret hx hb hr hlk hw rfl (Nat.le_of_ble_eq_true rfl) (Nat.le_of_ble_eq_true rfl) dL_undo_13
