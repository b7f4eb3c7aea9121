-- the constructor of the reference makes arrays of arrays: its law lies in the whole library
theorem u_mna_there : True := by
  have := @Stand.multianewarray2F
  trivial
