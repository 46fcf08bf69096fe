/-! the fairs at each wage stand -/
theorem hO_1_0 : allB (runM 20) 30 [vR 440, vR 46] hL_1_0 = true := by decide +kernel
theorem hO_1_33 : allB (runM 20) 30 [vR 440, vR 46] hL_1_33 = true := by decide +kernel
theorem hO_1_66 : allB (runM 20) 30 [vR 440, vR 46] hL_1_66 = true := by decide +kernel
theorem fO_1_0 : allB (runM 20) 208 [vR 452] fL_1_0 = true := by decide +kernel
theorem fO_1_20 : allB (runM 20) 208 [vR 452] fL_1_20 = true := by decide +kernel
theorem fO_1_40 : allB (runM 20) 208 [vR 452] fL_1_40 = true := by decide +kernel
theorem fO_1_60 : allB (runM 20) 208 [vR 452] fL_1_60 = true := by decide +kernel
theorem fO_1_80 : allB (runM 20) 208 [vR 452] fL_1_80 = true := by decide +kernel
noncomputable def leaS_1 : Sm := orS (cpS 178) (orS (tabS 30 [vR 440, vR 46] (fun M => hK_1 M - 1) hL_1_0) (orS (tabS 30 [vR 440, vR 46] (fun M => hK_1 M - 34) hL_1_33) (orS (tabS 30 [vR 440, vR 46] (fun M => hK_1 M - 67) hL_1_66) (orS (tabS 208 [vR 452] (fun M => fK_1 M - 1) fL_1_0) (orS (tabS 208 [vR 452] (fun M => fK_1 M - 21) fL_1_20) (orS (tabS 208 [vR 452] (fun M => fK_1 M - 41) fL_1_40) (orS (tabS 208 [vR 452] (fun M => fK_1 M - 61) fL_1_60) (tabS 208 [vR 452] (fun M => fK_1 M - 81) fL_1_80))))))))
theorem leaS_1_ok {l : Launch} {D : va_G} {G : Gam} {A : Nat → Prop} (hst : l.stackTraces = false) : SmOK l D G A leaS_1 := orS_ok (cpS_ok hst) (orS_ok (tabS_ok (runM_ok hst 20) hO_1_0) (orS_ok (tabS_ok (runM_ok hst 20) hO_1_33) (orS_ok (tabS_ok (runM_ok hst 20) hO_1_66) (orS_ok (tabS_ok (runM_ok hst 20) fO_1_0) (orS_ok (tabS_ok (runM_ok hst 20) fO_1_20) (orS_ok (tabS_ok (runM_ok hst 20) fO_1_40) (orS_ok (tabS_ok (runM_ok hst 20) fO_1_60) (tabS_ok (runM_ok hst 20) fO_1_80))))))))
noncomputable def cL_1 : Call := layN leaS_1 20
