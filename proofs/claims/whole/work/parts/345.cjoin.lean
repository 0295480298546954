theorem tmp_345cjoin : True := trivial
