theorem dec_none : True := trivial
