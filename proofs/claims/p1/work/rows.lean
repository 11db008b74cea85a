section
/-! Why the printed witness is none (REPORT.md, TRANSLATOR 1): where the tables have no class of this name, the statement's premises do not hold, whatever else the state is. -/
theorem tw_missing (args : Array Value) (s : State) (h : s.vm.findClass "[Ljava/lang/StackTraceElement;" = none) : (Jvm.Cond.and given_1 narrow_1).before args s = false := by
  cases hb : (Jvm.Cond.and given_1 narrow_1).before args s with
  | false => rfl
  | true =>
    have hc := flat_of_before _ hb (Jvm.Cond.not (Jvm.Cond.castable "[Ljava/lang/StackTraceElement;" "java/lang/Integer")) (by decide +kernel)
    simp [Cond.before, Cond.holds, Cond.value, h] at hc
end
