theorem zq_one : True := trivial
