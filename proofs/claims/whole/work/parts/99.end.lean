/-! the end of the rows so far -/
theorem kx_end : True := trivial
