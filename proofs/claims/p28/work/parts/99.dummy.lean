theorem zdummy : True := trivial
