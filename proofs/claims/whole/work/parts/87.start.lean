theorem st_stub : True := trivial
