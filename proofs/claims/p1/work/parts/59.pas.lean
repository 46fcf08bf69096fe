/-! the cases desertsIn, passDays -/
noncomputable def desS : Sm := orS (tabS 134 [vR 0, vI 0] (fun _ => 0) desL_0) (orS (tabS 134 [vR 0, vI 1] (fun _ => 0) desL_1) (orS (tabS 134 [vR 0, vI 2] (fun _ => 0) desL_2) (orS (tabS 134 [vR 0, vI 3] (fun _ => 0) desL_3) dayS)))
noncomputable def cD : Call := layN desS 20
theorem cD_ok {l : Launch} {D : va_G} {A : Nat → Prop} (hst : l.stackTraces = false) (G : Gam) : CallOK l D G A infT cD := layN_ok hst (orS_ok (tabS_ok (layN_ok hst (hdS_ok hst) 20) desB_0) (orS_ok (tabS_ok (layN_ok hst (hdS_ok hst) 20) desB_1) (orS_ok (tabS_ok (layN_ok hst (hdS_ok hst) 20) desB_2) (orS_ok (tabS_ok (layN_ok hst (hdS_ok hst) 20) desB_3) (dayS_ok hst))))) 20
theorem cb_35a : ca2 cD 35 [(0, 2147483647 + 0), (2147483648 + 0 + 4, 4294967295)] iv0 = true := by decide +kernel
theorem cb_35 : one8 cD 35 [2147483650, 2147483647, 2147483647, 2147483650] (2147483648 + 0) = true := by decide +kernel
noncomputable def pasS : Sm := forS 1 149 (vR 0) 1 60 pasT pB
noncomputable def cP : Call := layN (orS (cpS 178) (orS pasS goS_1)) 20
theorem cP_ok {l : Launch} {D : va_G} {A : Nat → Prop} (hst : l.stackTraces = false) (G : Gam) : CallOK l D G A infT cP := layN_ok hst (orS_ok (cpS_ok hst) (orS_ok (forS_ok (Or.inl rfl) (runM_ok hst 20) pasB) (goS_1_ok hst))) 20
theorem cb_50a : ca2 cP 50 [(0, 2147483647 + 1), (2147483648 + 1 + 60, 4294967295)] iv0 = true := by decide +kernel
theorem cb_50 : one8 cP 50 [2147483648, 2147483650, 2147483650, 2147483650, 2147483650, 2147483651, 2147483651, 2147483651, 2147483651, 2147483652, 2147483653, 2147483653, 2147483653, 2147483654, 2147483654, 2147483654, 2147483655, 2147483655, 2147483655, 2147483656, 2147483657, 2147483657, 2147483658, 2147483658, 2147483658, 2147483659, 2147483659, 2147483660, 2147483660, 2147483660, 2147483660, 2147483662, 2147483662, 2147483662, 2147483662, 2147483663, 2147483663, 2147483664, 2147483664, 2147483664, 2147483664, 2147483665, 2147483665, 2147483666, 2147483666, 2147483666, 2147483667, 2147483667, 2147483667, 2147483668, 2147483669, 2147483669, 2147483670, 2147483670, 2147483670, 2147483671, 2147483671, 2147483672, 2147483672, 2147483672] (2147483648 + 1) = true := by decide +kernel
