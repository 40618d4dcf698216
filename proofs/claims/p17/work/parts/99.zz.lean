/-! the last part of a trial round -/
theorem zz_last : True := trivial
