/-! This claim needs a fact of the library's rest (rows of rows are made at once): named here first, so that all parts are read over the whole library from the beginning. -/
theorem zz_wide : True := by
  have h := @Stand.multianewarray2F
  trivial
