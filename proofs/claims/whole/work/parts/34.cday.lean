theorem tmp_34cday : True := trivial
