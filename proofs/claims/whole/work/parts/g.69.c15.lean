theorem tcLw_15_a : tcLw (tO_395_15.take 60) = true := by decide +kernel
theorem tcLw_15_b : tcLw (tO_395_15.drop 60) = true := by decide +kernel
