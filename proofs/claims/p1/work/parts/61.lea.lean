/-! the fairs at each wage stand -/
theorem hO_0_0 : allB (runM 20) 30 [vR 440, vR 46] hL_0_0 = true := by decide +kernel
theorem hO_0_33 : allB (runM 20) 30 [vR 440, vR 46] hL_0_33 = true := by decide +kernel
theorem hO_0_66 : allB (runM 20) 30 [vR 440, vR 46] hL_0_66 = true := by decide +kernel
theorem fO_0_0 : allB (runM 20) 208 [vR 452] fL_0_0 = true := by decide +kernel
theorem fO_0_20 : allB (runM 20) 208 [vR 452] fL_0_20 = true := by decide +kernel
theorem fO_0_40 : allB (runM 20) 208 [vR 452] fL_0_40 = true := by decide +kernel
theorem fO_0_60 : allB (runM 20) 208 [vR 452] fL_0_60 = true := by decide +kernel
theorem fO_0_80 : allB (runM 20) 208 [vR 452] fL_0_80 = true := by decide +kernel
noncomputable def leaS_0 : Sm := orS (cpS 178) (orS (tabS 30 [vR 440, vR 46] (fun M => hK_0 M - 1) hL_0_0) (orS (tabS 30 [vR 440, vR 46] (fun M => hK_0 M - 34) hL_0_33) (orS (tabS 30 [vR 440, vR 46] (fun M => hK_0 M - 67) hL_0_66) (orS (tabS 208 [vR 452] (fun M => fK_0 M - 1) fL_0_0) (orS (tabS 208 [vR 452] (fun M => fK_0 M - 21) fL_0_20) (orS (tabS 208 [vR 452] (fun M => fK_0 M - 41) fL_0_40) (orS (tabS 208 [vR 452] (fun M => fK_0 M - 61) fL_0_60) (tabS 208 [vR 452] (fun M => fK_0 M - 81) fL_0_80))))))))
theorem leaS_0_ok {l : Launch} {D : va_G} {G : Gam} {A : Nat → Prop} (hst : l.stackTraces = false) : SmOK l D G A leaS_0 := orS_ok (cpS_ok hst) (orS_ok (tabS_ok (runM_ok hst 20) hO_0_0) (orS_ok (tabS_ok (runM_ok hst 20) hO_0_33) (orS_ok (tabS_ok (runM_ok hst 20) hO_0_66) (orS_ok (tabS_ok (runM_ok hst 20) fO_0_0) (orS_ok (tabS_ok (runM_ok hst 20) fO_0_20) (orS_ok (tabS_ok (runM_ok hst 20) fO_0_40) (orS_ok (tabS_ok (runM_ok hst 20) fO_0_60) (tabS_ok (runM_ok hst 20) fO_0_80))))))))
noncomputable def cL_0 : Call := layN leaS_0 20
