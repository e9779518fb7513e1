section
/-- THE GROUND of 'M66 does not compile': a state that meets the premises knows the class of arrays of StackTraceElement (a word of narrow_1 says that it is known, and no String) .. -/
theorem gr_needs {args : Array Value} {s : State} (h : (Jvm.Cond.and given_1 narrow_1).before args s = true) : s.vm.findClass "[Ljava/lang/StackTraceElement;" ≠ none := by
  have hs := flat_of_before _ h
  have hc : (Cond.not (.castable "[Ljava/lang/StackTraceElement;" "java/lang/String")).before args s = true := hs _ (by decide +kernel)
  intro hn
  simp [Cond.before, Cond.holds, Cond.value, hn] at hc
end
