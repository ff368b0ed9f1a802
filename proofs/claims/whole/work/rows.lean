section
/-- what narrow_1 asks of every start: a class of that name stands in the tables (found by name) -/
theorem ev_asks {args : Array Value} {s : State} (h : (Jvm.Cond.and given_1 narrow_1).before args s = true) : (s.vm.findClass "[Ljava/lang/StackTraceElement;").isSome = true := by
  have hc : (Cond.not (.castable "[Ljava/lang/StackTraceElement;" "java/lang/String")).before args s = true := flat_of_before _ h _ (by decide +kernel)
  cases hf : s.vm.findClass "[Ljava/lang/StackTraceElement;" with
  | some c => rfl
  | none => simp [Cond.before, Cond.holds, Cond.value, hf] at hc
/-- so a start whose tables have no class of that name meets no premise -/
theorem ev_none {args : Array Value} {s : State} (hf : s.vm.findClass "[Ljava/lang/StackTraceElement;" = none) : ¬ (Jvm.Cond.and given_1 narrow_1).before args s = true := by
  intro h
  have := ev_asks h
  rw [hf] at this
  cases this
end
