theorem t0 : True := trivial
