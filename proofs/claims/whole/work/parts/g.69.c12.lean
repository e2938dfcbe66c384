theorem tcLw_12_a : tcLw (tO_395_12.take 60) = true := by decide +kernel
theorem tcLw_12_b : tcLw (tO_395_12.drop 60) = true := by decide +kernel
