/-- a private method is selected on an object of a subclass, too -/
theorem zsb_sel {cls : String} {y y2 : MethodName} {s : State} {args : Array Value} (hy : y.cls ≠ "java/lang/invoke/MethodHandle" ∧ y.cls ≠ "java/lang/invoke/VarHandle") (hcl : y.cls = y2.cls)
    (hsel2 : (Cond.selects cls y2 y2).before args s = true) (hpriv : (Cond.privateMethod y).before args s = true) (hinst : (Cond.instanceMethod y).before args s = true) (hinst2 : (Cond.instanceMethod y2).before args s = true) :
    (Cond.selects cls y y).before args s = true := by
  obtain ⟨mk, methM, hnamed, hmethM, -, -⟩ := Cond.instanceMethod_spec hinst
  obtain ⟨mk2, methM2, hnamed2, hmethM2, -, -⟩ := Cond.instanceMethod_spec hinst2
  have hfound : s.methodFound? y.cls y.name y.desc = some mk := State.methodFound?_of_named hnamed hy
  have hfound2 : s.methodFound? y2.cls y2.name y2.desc = some mk2 := State.methodFound?_of_named hnamed2 (hcl ▸ hy)
  have hcls : mk.cls = mk2.cls := by
    have h1 := findClass_of_methodNamed hnamed
    have h2 := findClass_of_methodNamed hnamed2
    rw [hcl, h2] at h1
    exact (Option.some.inj h1).symm
  cases hc : s.vm.findClass cls with
  | none =>
    simp only [Cond.before, Cond.holds, Cond.value, hc] at hsel2
    exact absurd hsel2 (by simp)
  | some c =>
    have hsel : selectMethod {} s.vm c mk = .method mk := selectMethod_private hmethM (Cond.privateMethod_at hpriv mk methM hnamed hmethM)
    simp only [Cond.before, Cond.holds, Cond.value, hc, hfound2, hnamed2] at hsel2
    simp only [Cond.before, Cond.holds, Cond.value, hc, hfound, hnamed, hsel, hcls]
    revert hsel2
    split
    · intro h
      simp at h ⊢
      exact h.2
    · intro h
      exact absurd h (by simp)
