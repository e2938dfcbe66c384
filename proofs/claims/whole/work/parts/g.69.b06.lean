theorem tcLw_6 : tcLw tO_395_6 = true := by decide +kernel
theorem tcLw_7 : tcLw tO_395_7 = true := by decide +kernel
theorem tcLw_8 : tcLw tO_395_8 = true := by decide +kernel
