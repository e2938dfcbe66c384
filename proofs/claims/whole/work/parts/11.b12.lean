theorem tcLw_12 : tcLw tO_395_12 = true := by decide +kernel
theorem tcLw_13 : tcLw tO_395_13 = true := by decide +kernel
theorem tcLw_14 : tcLw tO_395_14 = true := by decide +kernel
