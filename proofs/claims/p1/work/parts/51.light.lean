/-! cases of one number -/
noncomputable def c1 : Call := layN (cpS 178) 20
theorem c1_ok {l : Launch} {D : va_G} {G : Gam} {A : Nat → Prop} (hst : l.stackTraces = false) : CallOK l D G A infT c1 := layN_ok hst (cpS_ok hst) 20
theorem cb_1 : ru c1 1 E0 = true := by decide +kernel
theorem cb_49 : ru c1 49 E0 = true := by decide +kernel
theorem cb_51 : ru c1 51 E0 = true := by decide +kernel
theorem cb_57 : ru c1 57 E0 = true := by decide +kernel
theorem cb_13 : ca2 c1 13 iv4 iv0 = true := by decide +kernel
theorem cb_14 : ca2 c1 14 iv4 iv0 = true := by decide +kernel
theorem cb_15 : ca2 c1 15 iv4 iv0 = true := by decide +kernel
theorem cb_16 : ca2 c1 16 iv4 iv0 = true := by decide +kernel
theorem cb_17 : ca2 c1 17 iv4 iv0 = true := by decide +kernel
theorem cb_18 : ca2 c1 18 iv4 iv0 = true := by decide +kernel
theorem cb_19 : ca2 c1 19 iv4 iv0 = true := by decide +kernel
theorem cb_20 : ca2 c1 20 iv4 iv0 = true := by decide +kernel
theorem cb_21 : ca2 c1 21 iv4 iv0 = true := by decide +kernel
theorem cb_22 : ca2 c1 22 iv4 iv0 = true := by decide +kernel
theorem cb_23 : ca2 c1 23 iv4 iv0 = true := by decide +kernel
theorem cb_24 : ca2 c1 24 iv4 iv0 = true := by decide +kernel
theorem cb_32 : ca2 c1 32 iv4 iv0 = true := by decide +kernel
theorem cb_37 : ca2 c1 37 iv4 iv0 = true := by decide +kernel
theorem cb_42 : ca2 c1 42 iv4 iv0 = true := by decide +kernel
theorem cb_43 : ca2 c1 43 iv4 iv0 = true := by decide +kernel
theorem cb_44 : ca2 c1 44 iv4 iv0 = true := by decide +kernel
theorem cb_53 : ca2 c1 53 iv4 iv0 = true := by decide +kernel
theorem cb_56 : ca2 c1 56 iv4 iv0 = true := by decide +kernel
