/-! a name of the rest of the library: with it a round knows at once that these rows are read over the whole of it -/
theorem xv_wide : True := by
  have _ := @Jvm.Stand.multianewarray2F
  trivial
