theorem p36_end : True := trivial
