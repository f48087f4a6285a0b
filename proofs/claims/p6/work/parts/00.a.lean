/-- a name of the library's rest: that the round is read over the whole of it is found out here, at the first part, not at the third -/
theorem rf_wide : True := by
  have h := @Jvm.Stand.multianewarray2F
  trivial
