section
/-! REPORT T1, in rows: the premise narrow_1 wants a class named "[Ljava/lang/StackTraceElement;"; at a start whose tables have none it is false. -/
theorem t1_left {a b : Jvm.Cond} {args : Array Value} {s : State} (h : (Jvm.Cond.and a b).before args s = true) : a.before args s = true := by
  rw [Cond.before_and, Bool.and_eq_true] at h; exact h.1
theorem t1_right {a b : Jvm.Cond} {args : Array Value} {s : State} (h : (Jvm.Cond.and a b).before args s = true) : b.before args s = true := by
  rw [Cond.before_and, Bool.and_eq_true] at h; exact h.2
theorem t1_named {args : Array Value} {s : State} {C T : String} (h : (Jvm.Cond.not (Jvm.Cond.castable C T)).before args s = true) : ∃ c, s.vm.findClass C = some c := by
  simp only [Cond.before, Cond.holds, Cond.value] at h
  cases h1 : s.vm.findClass C with
  | none => simp [h1] at h
  | some c => exact ⟨c, rfl⟩
theorem t1_wants {args : Array Value} {s : State} (h : narrow_1.before args s = true) : ∃ c, s.vm.findClass "[Ljava/lang/StackTraceElement;" = some c := by
  unfold narrow_1 at h
  exact t1_named (T := "java/lang/String") (t1_left (t1_left (t1_right (t1_right (t1_right (t1_left (t1_left (t1_left (t1_left h)))))))))
theorem t1_false {args : Array Value} {s : State} (h : s.vm.findClass "[Ljava/lang/StackTraceElement;" = none) : narrow_1.before args s = false := by
  cases e : narrow_1.before args s with
  | false => rfl
  | true => obtain ⟨c, hc⟩ := t1_wants e; rw [h] at hc; cases hc
end
