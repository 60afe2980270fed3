/-! the whole library is wanted (arrays of arrays): said first, so that a round over the short one ends at once -/
theorem zz_wide : True := by
  have _ := @Stand.arrayOver_alikeB
  trivial
