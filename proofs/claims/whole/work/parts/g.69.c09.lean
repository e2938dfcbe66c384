theorem tcLw_9_a : tcLw (tO_395_9.take 60) = true := by decide +kernel
theorem tcLw_9_b : tcLw (tO_395_9.drop 60) = true := by decide +kernel
