theorem tcLw_14_a : tcLw (tO_395_14.take 60) = true := by decide +kernel
theorem tcLw_14_b : tcLw (tO_395_14.drop 60) = true := by decide +kernel
