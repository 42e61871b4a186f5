theorem zz_last : True := by
  have _h := @Jvm.Stand.thenCaughtThrough
  trivial
