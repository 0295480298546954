theorem tmp_32day : True := trivial
