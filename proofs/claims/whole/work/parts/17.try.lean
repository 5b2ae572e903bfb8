theorem tr_1 : True := trivial
