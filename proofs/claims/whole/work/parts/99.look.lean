theorem zq_look : True := trivial
