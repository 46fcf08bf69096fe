/-! the fairs at each wage stand -/
theorem hO_2_0 : allB (runM 20) 30 [vR 440, vR 46] hL_2_0 = true := by decide +kernel
theorem hO_2_33 : allB (runM 20) 30 [vR 440, vR 46] hL_2_33 = true := by decide +kernel
theorem hO_2_66 : allB (runM 20) 30 [vR 440, vR 46] hL_2_66 = true := by decide +kernel
theorem fO_2_0 : allB (runM 20) 208 [vR 452] fL_2_0 = true := by decide +kernel
theorem fO_2_20 : allB (runM 20) 208 [vR 452] fL_2_20 = true := by decide +kernel
theorem fO_2_40 : allB (runM 20) 208 [vR 452] fL_2_40 = true := by decide +kernel
theorem fO_2_60 : allB (runM 20) 208 [vR 452] fL_2_60 = true := by decide +kernel
theorem fO_2_80 : allB (runM 20) 208 [vR 452] fL_2_80 = true := by decide +kernel
noncomputable def leaS_2 : Sm := orS (cpS 178) (orS (tabS 30 [vR 440, vR 46] (fun M => hK_2 M - 1) hL_2_0) (orS (tabS 30 [vR 440, vR 46] (fun M => hK_2 M - 34) hL_2_33) (orS (tabS 30 [vR 440, vR 46] (fun M => hK_2 M - 67) hL_2_66) (orS (tabS 208 [vR 452] (fun M => fK_2 M - 1) fL_2_0) (orS (tabS 208 [vR 452] (fun M => fK_2 M - 21) fL_2_20) (orS (tabS 208 [vR 452] (fun M => fK_2 M - 41) fL_2_40) (orS (tabS 208 [vR 452] (fun M => fK_2 M - 61) fL_2_60) (tabS 208 [vR 452] (fun M => fK_2 M - 81) fL_2_80))))))))
theorem leaS_2_ok {l : Launch} {D : va_G} {G : Gam} {A : Nat → Prop} (hst : l.stackTraces = false) : SmOK l D G A leaS_2 := orS_ok (cpS_ok hst) (orS_ok (tabS_ok (runM_ok hst 20) hO_2_0) (orS_ok (tabS_ok (runM_ok hst 20) hO_2_33) (orS_ok (tabS_ok (runM_ok hst 20) hO_2_66) (orS_ok (tabS_ok (runM_ok hst 20) fO_2_0) (orS_ok (tabS_ok (runM_ok hst 20) fO_2_20) (orS_ok (tabS_ok (runM_ok hst 20) fO_2_40) (orS_ok (tabS_ok (runM_ok hst 20) fO_2_60) (tabS_ok (runM_ok hst 20) fO_2_80))))))))
noncomputable def cL_2 : Call := layN leaS_2 20
