theorem mC_40 : places (mC 4 0) = true := by decide +kernel
theorem mC_41 : places (mC 4 1) = true := by decide +kernel
theorem mC_42 : places (mC 4 2) = true := by decide +kernel
theorem mC_43 : places (mC 4 3) = true := by decide +kernel
theorem mC_44 : places (mC 4 4) = true := by decide +kernel
theorem mC_45 : places (mC 4 5) = true := by decide +kernel
