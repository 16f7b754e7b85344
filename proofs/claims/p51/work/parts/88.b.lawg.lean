/-! ===== THE LAW'S OWN WORDS: private methods of a class above ===== -/
def lw_pr : List MethodName := [yJ5_appendNull_278bc, yJ5_ensureCapacityInternal_d00df, yJ5_newCapacity_0f7a4, yJ5_putStringAt_47b60, yJ5_inflateIfNeededFor_a7421, yJ5_inflate_da8c8]
def lw_tbl2 : List Cond := (lw_pr.map fun y => Cond.selects RJ4 y y) ++ lw_tbl
theorem goodIn_up {a : List Cond} (h : GoodIn lw_tbl a) : GoodIn lw_tbl2 a := fun w hw => ⟨List.mem_append_right _ (h w hw).1, (h w hw).2⟩
theorem xSel_private {y z : MethodName} {s : State} {args : Array Value} {n : Nat} {C : String} (hy : y.cls ≠ "java/lang/invoke/MethodHandle" ∧ y.cls ≠ "java/lang/invoke/VarHandle") (hins : (Cond.instantiable C n).before args s = true) (hpriv : (Cond.privateMethod y).before args s = true) (hinst : (Cond.instanceMethod y).before args s = true) (hz : (Cond.selects C z z).before args s = true) (hzc : z.cls = y.cls) : (Cond.selects C y y).before args s = true := by
  obtain ⟨c, k, hc, hk, -, hniab, -, -⟩ := Cond.instantiable_spec hins
  obtain ⟨mk, methM, hnamed, hmethM, -, -⟩ := Cond.instanceMethod_spec hinst
  have hfound : s.methodFound? y.cls y.name y.desc = some mk := State.methodFound?_of_named hnamed hy
  have hsel : selectMethod {} s.vm c mk = .method mk := selectMethod_private hmethM (Cond.privateMethod_at hpriv mk methM hnamed hmethM)
  obtain ⟨c2, r2, m2, q1, q2, q3, q4, mk2, q5, q6⟩ := Cond.selects_spec hz
  have e : m2.cls = mk.cls := Option.some.inj ((findClass_of_methodNamed q3).symm.trans (by rw [hzc]; exact findClass_of_methodNamed hnamed))
  rw [e] at q5
  simp only [Cond.before, Cond.holds, Cond.value, hc, hfound, hnamed, hsel, q5]
  simp
  exact q6
theorem lw_pr_ok : ∀ y ∈ lw_pr, (y.cls ≠ "java/lang/invoke/MethodHandle" ∧ y.cls ≠ "java/lang/invoke/VarHandle") ∧ Cond.privateMethod y ∈ lw_tbl ∧ Cond.instanceMethod y ∈ lw_tbl ∧ yJ5_isLatin1_aae02.cls = y.cls := by decide +kernel
theorem lw_tbl2_ok {args : Array Value} {s : State} (h : ∀ w ∈ lw_tbl, w.before args s = true) : ∀ w ∈ lw_tbl2, w.before args s = true := by
  intro w hw
  rcases List.mem_append.mp hw with hw | hw
  · obtain ⟨y, hy, rfl⟩ := List.mem_map.mp hw
    obtain ⟨h0, h1, h2, h3⟩ := lw_pr_ok y hy
    exact xSel_private h0 (h (.instantiable RJ4 4) (by decide +kernel)) (h _ h1) (h _ h2) (h (.selects RJ4 yJ5_isLatin1_aae02 yJ5_isLatin1_aae02) (by decide +kernel)) h3
  · exact h w hw
