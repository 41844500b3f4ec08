theorem q_probe : True := trivial
