theorem fx_pi : True := trivial
