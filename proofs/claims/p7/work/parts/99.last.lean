theorem kkkk : True := trivial
