/-- the library's laws of throws that leave a method stand in its rest: this claim is read over the whole of it -/
theorem q_wide : True := by
  have h1 := @Jvm.Stand.thenCaughtThrough
  have h2 := @Jvm.Stand.outThrough
  trivial
