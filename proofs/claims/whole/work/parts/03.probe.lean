theorem probe_1 : True := trivial
