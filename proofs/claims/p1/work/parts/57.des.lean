/-! the class's desertsIn -/
def dB : Lst := (0, sC k1_0) :: (5, sC k1_5) :: (6, sC k1_6) :: (7, sC k1_7) :: (8, sC k1_8) :: (9, sC k1_9) :: (10, sC k1_10) :: (11, sC k1_11) :: (12, sC k1_12) :: (13, sC k1_13) :: (22, sC k1_22) :: (23, sC k1_23) :: (24, sC k1_24) :: (25, sC k1_25) :: (26, sC k1_26) :: (27, sC k1_27) :: (28, sC k1_28) :: (29, sC k1_29) :: (30, sC k1_30) :: (46, sC k1_46) :: (47, sC k1_47) :: (48, sC k1_48) :: (49, sC k1_49) :: (50, sC k1_50) :: (51, sC k1_51) :: (52, sC k1_52) :: (61, sC k1_61) :: (62, sC k1_62) :: (63, sC k1_63) :: (64, sC k1_64) :: (65, sC k1_65) :: (66, sC k1_66) :: (67, sC k1_67) :: (68, sC k1_68) :: (69, sC k1_69) :: (440, sC k1_440) :: (441, sC k1_441) :: (442, sC k1_442) :: (443, sC k1_443) :: (444, sC k1_444) :: (445, sC k1_445) :: pK
noncomputable def desL_0 : List Ent := [(0, vI 2, dB, pK)]
theorem desB_0 : allB (layN hdS 20) 134 [vR 0, vI 0] desL_0 = true := by decide +kernel
noncomputable def desL_1 : List Ent := [(0, vI 4294967295, dB, pK)]
theorem desB_1 : allB (layN hdS 20) 134 [vR 0, vI 1] desL_1 = true := by decide +kernel
noncomputable def desL_2 : List Ent := [(0, vI 4294967295, dB, pK)]
theorem desB_2 : allB (layN hdS 20) 134 [vR 0, vI 2] desL_2 = true := by decide +kernel
noncomputable def desL_3 : List Ent := [(0, vI 2, dB, pK)]
theorem desB_3 : allB (layN hdS 20) 134 [vR 0, vI 3] desL_3 = true := by decide +kernel
