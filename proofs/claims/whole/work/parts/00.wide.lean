/-! ===== a name of the library's rest, so that a round is read over the whole library from its first part on ===== -/
theorem zz_wide : True := by
  have _h := @goThrough
  trivial
