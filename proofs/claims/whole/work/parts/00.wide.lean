-- names one row of the library's rest, so that a new machine reads these rows over the whole library from the first part on
theorem zwide_0 : True := by
  have _h := @Jvm.Free.Multi.fill_inner
  trivial
