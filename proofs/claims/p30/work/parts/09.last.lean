theorem zz_here : True := trivial
