theorem zz_77 : True := trivial
