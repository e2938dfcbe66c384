theorem tcLw_11_a : tcLw (tO_395_11.take 60) = true := by decide +kernel
theorem tcLw_11_b : tcLw (tO_395_11.drop 60) = true := by decide +kernel
