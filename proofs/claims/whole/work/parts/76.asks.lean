theorem zz_76 : True := trivial
