def tcLw (l : List (Nat × av_O)) : Bool := l.all fun q => av_chk tP0 tK tCl tI 396 tmk (tmo 395) 395 (av_ini tP0 395) (av_me tP0 395).2.1 q.1 q.2.1 q.2.2.1 q.2.2.2
theorem tcLw_0 : tcLw tO_395_0 = true := by decide +kernel
theorem tcLw_1 : tcLw tO_395_1 = true := by decide +kernel
theorem tcLw_2 : tcLw tO_395_2 = true := by decide +kernel
theorem tcLw_3 : tcLw tO_395_3 = true := by decide +kernel
theorem tcLw_4 : tcLw tO_395_4 = true := by decide +kernel
theorem tcLw_5 : tcLw tO_395_5 = true := by decide +kernel
theorem tcLw_6 : tcLw tO_395_6 = true := by decide +kernel
theorem tcLw_7 : tcLw tO_395_7 = true := by decide +kernel
theorem tcLw_8 : tcLw tO_395_8 = true := by decide +kernel
theorem tcLw_9 : tcLw tO_395_9 = true := by decide +kernel
theorem tcLw_10 : tcLw tO_395_10 = true := by decide +kernel
theorem tcLw_11 : tcLw tO_395_11 = true := by decide +kernel
theorem tcLw_12 : tcLw tO_395_12 = true := by decide +kernel
theorem tcLw_13 : tcLw tO_395_13 = true := by decide +kernel
theorem tcLw_14 : tcLw tO_395_14 = true := by decide +kernel
theorem tcLw_15 : tcLw tO_395_15 = true := by decide +kernel
