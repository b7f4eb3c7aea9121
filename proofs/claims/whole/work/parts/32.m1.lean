theorem mC_10 : places (mC 1 0) = true := by decide +kernel
theorem mC_11 : places (mC 1 1) = true := by decide +kernel
theorem mC_12 : places (mC 1 2) = true := by decide +kernel
theorem mC_13 : places (mC 1 3) = true := by decide +kernel
theorem mC_14 : places (mC 1 4) = true := by decide +kernel
theorem mC_15 : places (mC 1 5) = true := by decide +kernel
