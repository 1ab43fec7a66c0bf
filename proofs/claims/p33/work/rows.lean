section
/-! WHAT THE PREMISES ASK: the array class of the stack's elements is there (a 'not castable' of a class that isn't there is worth nothing) -/
def py_cj : Cond → List Cond
  | .and a b => py_cj a ++ py_cj b
  | c => [c]
theorem py_cj_ok {args : Array Value} {s : State} (c : Cond) (h : c.before args s = true) : ∀ w ∈ py_cj c, w.before args s = true := by
  induction c using py_cj.induct with
  | case1 a b iha ihb =>
    simp only [Cond.before_and, Bool.and_eq_true] at h
    intro w hw
    rw [py_cj] at hw
    rcases List.mem_append.mp hw with hw | hw
    · exact iha h.1 w hw
    · exact ihb h.2 w hw
  | case2 c hne =>
    intro w hw
    unfold py_cj at hw
    split at hw
    · exact absurd rfl (hne _ _)
    · rw [List.mem_singleton] at hw
      rw [hw]
      exact h
set_option maxRecDepth 100000 in
theorem py_in : Cond.not (.castable "[Ljava/lang/StackTraceElement;" "java/lang/String") ∈ py_cj narrow_1 := by decide +kernel
theorem py_worth {args : Array Value} {s : State} (hc : s.vm.findClass "[Ljava/lang/StackTraceElement;" = none) : (Cond.not (.castable "[Ljava/lang/StackTraceElement;" "java/lang/String")).before args s = false := by
  simp [Cond.before, Cond.holds, Cond.value, hc]
/-- no start without that class meets the premises -/
theorem py_need {args : Array Value} {s : State} (h : (Cond.and given_1 narrow_1).before args s = true) : (s.vm.findClass "[Ljava/lang/StackTraceElement;").isSome = true := by
  rw [Cond.before_and, Bool.and_eq_true] at h
  have h1 := py_cj_ok narrow_1 h.2 _ py_in
  cases hc : s.vm.findClass "[Ljava/lang/StackTraceElement;" with
  | some c => rfl
  | none => rw [py_worth hc] at h1; cases h1
end
