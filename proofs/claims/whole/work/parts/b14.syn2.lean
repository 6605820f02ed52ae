/-! No stack traces: the launch's flags. -/
theorem l_nost (l : Launch) (hflags : l.flags = flags0) : l.stackTraces = false := by
  first | (unfold Launch.stackTraces; rw [hflags]; decide) | (simp [Launch.stackTraces, hflags, flags0]; done) | (simp [Launch.stackTraces, hflags]; decide)
theorem d_854 : decode code 854 = .ok (.ireturn, 1) := by decide +kernel
theorem x_law : cL_law = code := rfl
