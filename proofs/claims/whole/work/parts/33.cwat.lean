theorem tmp_33cwat : True := trivial
