/-! cases of two numbers -/
theorem cb_54 : ca2 c1 54 iv4 iv0 = true := by decide +kernel
theorem cb_25 : ca2 c1 25 iv4 iv4 = true := by decide +kernel
theorem cb_26 : ca2 c1 26 iv4 iv4 = true := by decide +kernel
theorem cb_27 : ca2 c1 27 iv4 iv4 = true := by decide +kernel
theorem cb_28 : ca2 c1 28 iv4 iv4 = true := by decide +kernel
theorem cb_29 : ca2 c1 29 iv4 iv4 = true := by decide +kernel
theorem cb_30 : ca2 c1 30 iv4 iv4 = true := by decide +kernel
theorem cb_39 : ca2 c1 39 iv4 iv4 = true := by decide +kernel
theorem cb_52 : ca2 c1 52 iv4 iv4 = true := by decide +kernel
