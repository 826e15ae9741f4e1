/-! the rows of rows' module, named early: the claim is then read over the whole library from the first part on -/
theorem lw_wide (c : ClassId) (N h0 : Nat) : Jvm.Free.Multi.outerC c N h0 0 = Jvm.Free.Multi.outerC c N h0 0 := rfl
