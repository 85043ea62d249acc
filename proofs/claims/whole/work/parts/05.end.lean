/-- nothing yet -/
theorem z_end : True := trivial
