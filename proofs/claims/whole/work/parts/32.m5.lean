theorem mC_50 : places (mC 5 0) = true := by decide +kernel
theorem mC_51 : places (mC 5 1) = true := by decide +kernel
theorem mC_52 : places (mC 5 2) = true := by decide +kernel
theorem mC_53 : places (mC 5 3) = true := by decide +kernel
theorem mC_54 : places (mC 5 4) = true := by decide +kernel
theorem mC_55 : places (mC 5 5) = true := by decide +kernel
