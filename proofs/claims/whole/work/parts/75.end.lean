theorem end_nil : True := trivial
