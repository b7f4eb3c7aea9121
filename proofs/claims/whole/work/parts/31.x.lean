theorem xC_all : ((List.range 6).all fun a => (List.range 6).all fun b => places (xC a b)) = true := by decide +kernel
theorem pC_all : ((List.range 6).all fun a => (List.range 6).all fun b => places (pC a b)) = true := by decide +kernel
