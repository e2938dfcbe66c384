theorem tcLw_3 : tcLw tO_395_3 = true := by decide +kernel
theorem tcLw_4 : tcLw tO_395_4 = true := by decide +kernel
theorem tcLw_5 : tcLw tO_395_5 = true := by decide +kernel
