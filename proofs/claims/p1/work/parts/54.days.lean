/-! each day stands -/
theorem dayB_0 : allB (runM 20) 213 [vR 452] dayC_0 = true := by decide +kernel
theorem dayB_1 : allB (runM 20) 213 [vR 452] dayC_1 = true := by decide +kernel
theorem dayB_2 : allB (runM 20) 213 [vR 452] dayC_2 = true := by decide +kernel
theorem dayB_3 : allB (runM 20) 213 [vR 452] dayC_3 = true := by decide +kernel
theorem dayB_4 : allB (runM 20) 213 [vR 452] dayC_4 = true := by decide +kernel
noncomputable def dayS : Sm := orS (cpS 178) (orS (tabS 213 [vR 452] (fun M => dayK M - 0) dayC_0) (orS (tabS 213 [vR 452] (fun M => dayK M - 24) dayC_1) (orS (tabS 213 [vR 452] (fun M => dayK M - 48) dayC_2) (orS (tabS 213 [vR 452] (fun M => dayK M - 72) dayC_3) (tabS 213 [vR 452] (fun M => dayK M - 96) dayC_4)))))
theorem dayS_ok {l : Launch} {D : va_G} {G : Gam} {A : Nat → Prop} (hst : l.stackTraces = false) : SmOK l D G A dayS := orS_ok (cpS_ok hst) (orS_ok (tabS_ok (runM_ok hst 20) dayB_0) (orS_ok (tabS_ok (runM_ok hst 20) dayB_1) (orS_ok (tabS_ok (runM_ok hst 20) dayB_2) (orS_ok (tabS_ok (runM_ok hst 20) dayB_3) (tabS_ok (runM_ok hst 20) dayB_4)))))
