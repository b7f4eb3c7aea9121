theorem mC_30 : places (mC 3 0) = true := by decide +kernel
theorem mC_31 : places (mC 3 1) = true := by decide +kernel
theorem mC_32 : places (mC 3 2) = true := by decide +kernel
theorem mC_33 : places (mC 3 3) = true := by decide +kernel
theorem mC_34 : places (mC 3 4) = true := by decide +kernel
theorem mC_35 : places (mC 3 5) = true := by decide +kernel
