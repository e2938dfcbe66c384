theorem tcLw_15 : tcLw tO_395_15 = true := by decide +kernel
