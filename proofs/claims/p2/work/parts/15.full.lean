/-! On the machine of tt_tight an invocation above N frames finds the stack full: the one question that the VM asks before it makes a frame (no exception being made below). -/
theorem tt_full (e : Env) (N : Nat) (t : Thread) (fs : List Frame) (k : Nat) (h0 : t.stackBytes = 0) (h : N ≤ (stackUse fs).1) : (tt_env e N).platform.stackFull t fs k = true := by
  have hl : (tt_env e N).platform.stackLimits t = (N, (tt_env e N).platform.maxStackSlots) := by
    simp [Platform.stackLimits, Platform.limitsFor, h0, tt_env]
  simp only [Platform.stackFull, hl, Bool.or_eq_true, decide_eq_true_eq]
  exact Or.inl h
