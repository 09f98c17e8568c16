theorem fx_ph : True := trivial
