theorem mC_20 : places (mC 2 0) = true := by decide +kernel
theorem mC_21 : places (mC 2 1) = true := by decide +kernel
theorem mC_22 : places (mC 2 2) = true := by decide +kernel
theorem mC_23 : places (mC 2 3) = true := by decide +kernel
theorem mC_24 : places (mC 2 4) = true := by decide +kernel
theorem mC_25 : places (mC 2 5) = true := by decide +kernel
