theorem tcLw_13_a : tcLw (tO_395_13.take 60) = true := by decide +kernel
theorem tcLw_13_b : tcLw (tO_395_13.drop 60) = true := by decide +kernel
