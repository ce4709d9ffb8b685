theorem lastRow : True := trivial
