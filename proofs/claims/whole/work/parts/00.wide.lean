/-! A name of the rest of the library, as the printed row of new T[n][m] uses it: so the first part says at once that the whole library is wanted. -/
theorem aa_wide : True := by
  have _h := @Jvm.Stand.multianewarray2F
  exact trivial
