theorem hb_dummy : True := trivial
