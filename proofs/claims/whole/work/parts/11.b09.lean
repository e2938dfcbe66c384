theorem tcLw_9 : tcLw tO_395_9 = true := by decide +kernel
theorem tcLw_10 : tcLw tO_395_10 = true := by decide +kernel
theorem tcLw_11 : tcLw tO_395_11 = true := by decide +kernel
