theorem zz_start0 : True := trivial
