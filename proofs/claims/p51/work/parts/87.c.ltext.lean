/-! ===== TEXTS IN THE LAW: reading a made text, writing one ===== -/
def xLv (l : Launch) (y : MethodName) (ws : List Cond) (rm : Room) (E : xE) (av : List Value) (σ : xSt) (σ1 : xSt) (mc ms : Nat) : Prop := ∀ sz : Nat, Met l y ws rm (xPreL E av σ sz) (xQv E (va_A (E.W σ) sz) σ1) mc ms (va_A (E.W σ) sz)
section XLV
variable {p : Program} {l : Launch} {e : Env} {R : Room} {s : State} {m : MethodId} {args : Array Value} {below : List Frame} {meth : Method} {c : Code} {H : Heap} {locs : List Loc} {cells slots : Nat} {Q : State → Prop}
variable {cc : ByteArray} {pc : Nat} {ls : Array Slot} {rest : List Value} {E : xE} {A : Nat → Prop} {H0 : Heap} {σ : xSt}
theorem x_callLv {av : Array Value} {σ1 : xSt} {st0 : List Value} {mc ms : Nat} (hr : va_Run p l e R s m args below meth c H locs cells slots mc ms (F0 m pc ls st0) rest (xQv E (va_A (E.W σ) H.size) σ1 av) (va_A (E.W σ) H.size)) (hw : xw E A H0 s σ H locs) (hA : ∀ q, H0.size ≤ q → A q)
    (kk : ∀ (H1 : Heap) (locs1 : List Loc), xw E A H0 s σ1 H1 locs1 → W p l e R s m args below meth c H1 locs1 (cells + mc) (slots + ms) Q (F0 m (pc + 3) ls rest)) : W p l e R s m args below meth c H locs cells slots Q (F0 m pc ls st0) := by
  refine va_callv hr hw.2.2.2 (fun q _ h => hw.free hA q h) (hw.free hA) (fun u t H1 locs1 ht hvm hpost hB hz1 hk1 hS1 => ?_)
  obtain rfl := hpost
  obtain ⟨hP1, hK1, hD1⟩ := hB
  rw [ht] at hP1
  exact kk H1 locs1 ⟨hw.1, hP1, ⟨hD1.1, fun k z hk => hw.free hA _ (hD1.2 k z hk)⟩, hS1⟩
theorem x_Lvret {v r0 : Int32} {σ1 : xSt} {mc ms : Nat} (hexec : p.tables.exec = Jvm.exec) (hb : c.code = cc) (hr : meth.sig.returnType = none) (hlocks : meth.locks = false) (hw : xw E A s.heap s σ H locs) (hf : some (v, σ) = some (r0, σ1)) (hc : cells ≤ mc) (hs : slots ≤ ms) (hdg : decode cc pc = .ok (.return_, 1)) : W p l e R s m args below meth c H locs cells slots (MQ below (xQv E A σ1) args s mc ms A) (F0 m pc ls []) := by
  obtain rfl : σ = σ1 := (Prod.mk.inj (Option.some.inj hf)).2
  exact W.widen hc hs (W.vret hexec hb hr (fun t ht hW => ⟨⟨σ, rfl, rfl, by rw [ht]; exact hw.2.1, va_K.moved hW.alike hw.1, hw.2.2.1⟩, hw.2.2.2.F ht⟩) hw.2.2.2.2.2 hdg hlocks)
end XLV
theorem mCharAt {l : Launch} {E : xE} {X : va_W} (q q2 : Nat) {h v n : Nat} {t : Nat → Nat} {a : Nat → Int32} (hq : X[q]? = some (h, soO v)) (hq2 : X[q2]? = some (v, xBytes (E.g.2.2 21) n a)) (hn : n ≤ 1000) (hL : sb_Lat t n a) {i : Int32} (hin : vp_in i n) (σ : xSt) : xLi l yJ0_charAt_5068e wsJ0_charAt_5068e rmJ0_charAt_5068e (xPlus E X) [.ref h, .int i] σ (nI (t i.toNatClampNeg)) σ 0 0 := by
  obtain ⟨j, hj, rfl⟩ := nI_of (x := i) (fun z => hin (Or.inl z))
  have hjn : j < n := Nat.not_le.mp fun z => hin (Or.inr (by rw [nI_clamp hj]; exact z))
  rw [nI_clamp hj]
  exact mJ0_charAt q q2 hq hq2 j (t j) hjn hn (hL j hjn) σ
theorem sbP_at {h n : Nat} {cB : ClassId} {t : Nat → Nat} {X : va_W} (hs : sbP h cB n t X) : ∃ fs : List Value, X[0]? = some (h, .inr (15, fs)) := by
  obtain ⟨v, m, ml, a, rfl, -⟩ := hs
  exact ⟨_, rfl⟩
theorem sbP_le {h n : Nat} {cB : ClassId} {t : Nat → Nat} {X : va_W} (hs : sbP h cB n t X) : n ≤ 70 := by
  obtain ⟨v, m, ml, a, rfl, hM, hn, -⟩ := hs
  rcases hM with rfl | rfl | rfl <;> omega
theorem mSB_length {l : Launch} {E : xE} {X : va_W} {h n : Nat} {t : Nat → Nat} (hs : sbP h (E.g.2.2 21) n t X) (σ : xSt) : xLi l yJ4_length_8abf5 wsJ4_length_8abf5 rmJ4_length_8abf5 (xPlus E X) [.ref h] σ (nI n) σ 0 0 := by
  obtain ⟨v, m, ml, a, rfl, -⟩ := hs
  exact mJ4_length 0 rfl σ
theorem mSB_str {l : Launch} {E : xE} {X : va_W} {h n : Nat} {t : Nat → Nat} (hs : sbP h (E.g.2.2 21) n t X) (i : Nat) (hi : i < 2) (h48 : n ≤ 48) (σ : xSt) : xJr l yJ4_append_15ec4 wsJ4_append_15ec4 rmJ4_append_15ec4 E X [.ref h, .ref (E.g.2.2 (12 + i))] σ (fun X1 r => r = h ∧ sbP h (E.g.2.2 21) (n + skW i) (sb_cat t n (skT i)) X1) 1 70 := by
  obtain ⟨v, m, ml, a, rfl, hM, hn, hf, hL⟩ := hs
  exact mJ4_appendStr hM hn hf hL hi h48 σ
theorem mSB_chr {l : Launch} {E : xE} {X : va_W} {h n : Nat} {t : Nat → Nat} (hs : sbP h (E.g.2.2 21) n t X) (ch : Nat) (hch : ch < 128) (h48 : n ≤ 48) (σ : xSt) : xJr l yJ4_append_cf468 wsJ4_append_cf468 rmJ4_append_cf468 E X [.ref h, .int (nI ch)] σ (fun X1 r => r = h ∧ sbP h (E.g.2.2 21) (n + 1) (sb_cat t n (fun _ => ch)) X1) 1 70 := by
  obtain ⟨v, m, ml, a, rfl, hM, hn, hf, hL⟩ := hs
  exact mJ4_appendChar hM hn hf hL hch h48 σ
theorem mSB_int {l : Launch} {E : xE} {X : va_W} {h n : Nat} {t : Nat → Nat} (hs : sbP h (E.g.2.2 21) n t X) {x : Int32} (h0 : ¬ x < 0) (h1 : x.toNatClampNeg < 100) (h48 : n ≤ 48) (σ : xSt) : xJr l yJ4_append_bf812 wsJ4_append_bf812 rmJ4_append_bf812 E X [.ref h, .int x] σ (fun X1 r => r = h ∧ sbP h (E.g.2.2 21) (n + sb_dg x.toNatClampNeg) (sb_cat t n (sb_dec x.toNatClampNeg)) X1) 1 70 := by
  obtain ⟨j, hj, rfl⟩ := nI_of h0
  rw [nI_clamp hj] at h1 ⊢
  obtain ⟨v, m, ml, a, rfl, hM, hn, hf, hL⟩ := hs
  exact mJ4_appendInt hM hn hf hL h1 h48 σ
def xle {β : Type} (n k : Nat) (K : Option β) : Option β := if n ≤ k then K else none
theorem xle_e {β : Type} {n k : Nat} {K : Option β} {o : β} (h : xle n k K = some o) : n ≤ k ∧ K = some o := by
  unfold xle at h
  split at h
  · exact ⟨by assumption, h⟩
  · cases h
def x99 {β : Type} (x : Int32) (K : Option β) : Option β := if ¬ x < 0 ∧ x.toNatClampNeg < 100 then K else none
theorem x99_e {β : Type} {x : Int32} {K : Option β} {o : β} (h : x99 x K = some o) : ¬ x < 0 ∧ x.toNatClampNeg < 100 ∧ K = some o := by
  unfold x99 at h
  split at h
  · rename_i h1; exact ⟨h1.1, h1.2, h⟩
  · cases h
