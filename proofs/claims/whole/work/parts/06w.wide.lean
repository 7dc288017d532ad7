/-- rows of the library's later part are used below (the row of a grid that is made) -/
theorem zz_wide : True := by
  have _h := @Jvm.Stand.multianewarray2F
  trivial
