theorem mC_00 : places (mC 0 0) = true := by decide +kernel
theorem mC_01 : places (mC 0 1) = true := by decide +kernel
theorem mC_02 : places (mC 0 2) = true := by decide +kernel
theorem mC_03 : places (mC 0 3) = true := by decide +kernel
theorem mC_04 : places (mC 0 4) = true := by decide +kernel
theorem mC_05 : places (mC 0 5) = true := by decide +kernel
