theorem tcLw_0 : tcLw tO_395_0 = true := by decide +kernel
theorem tcLw_1 : tcLw tO_395_1 = true := by decide +kernel
theorem tcLw_2 : tcLw tO_395_2 = true := by decide +kernel
