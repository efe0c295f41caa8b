/-! z -/
theorem zzz_1 : True := trivial
