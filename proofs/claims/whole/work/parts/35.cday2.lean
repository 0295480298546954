theorem tmp_35cday2 : True := trivial
