
theorem zz_fill : True := trivial
