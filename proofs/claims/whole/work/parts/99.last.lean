theorem xx_dummy : True := trivial
