theorem tcLw_10_a : tcLw (tO_395_10.take 60) = true := by decide +kernel
theorem tcLw_10_b : tcLw (tO_395_10.drop 60) = true := by decide +kernel
