section
noncomputable def ct_36 : Ctr := ([(2, 6, 0), (3, 0, 0)], [], [], [(6, 0, 4), (6, 6, 8), (6, 10, 11), (20, 0, 11)], [((1, 0), (1, 0, 0), [], [])])
noncomputable def md_36 : MDT := (4, nb_X8_start, [(1, ([(3, 0, 12)], [], [(6, 10, 11), (20, 0, 11)], [], false, true, []))])
theorem hc_36 : xctr kd0 sh0 rt0 bd0 un0 PR0 MT0 (ctL []) 8 md_36 ct_36 = true := by decide +kernel
noncomputable def ct_37 : Ctr := ([(1, 446, 0), (0, 1, 1), (0, 9, 9)], [(((.inl 446, (0, 0, 1)) : RK × Aff), 0, 900)], [], [(10, 1, 7)], [((0, 0), (0, 0, 0), [(((.inl 446, (0, 0, 2)) : RK × Aff), 0, 5), (((.inl 446, (0, 0, 4)) : RK × Aff), (-900), 900), (((.inl 446, (0, 0, 6)) : RK × Aff), 1, 2), (((.inl 446, (0, 0, 7)) : RK × Aff), 0, 900)], []), ((0, 0), (0, 1, 1), [(((.inl 446, (0, 0, 2)) : RK × Aff), 2, 2), (((.inl 446, (0, 0, 4)) : RK × Aff), (-900), 4), (((.inl 446, (0, 0, 5)) : RK × Aff), 1, 9)], [])])
noncomputable def md_37 : MDT := (3, nb_X7_takeNumber, [])
theorem hc_37 : xctr kd0 sh0 rt0 bd0 un0 PR0 MT0 (ctL [(48, ct_2)]) 8 md_37 ct_37 = true := by decide +kernel
noncomputable def ct_38 : Ctr := ([(1, 446, 0), (0, 1, 1), (0, 3, 3)], [(((.inl 446, (0, 0, 1)) : RK × Aff), 0, 900)], [], [(10, 1, 7)], [((0, 0), (0, 0, 0), [(((.inl 446, (0, 0, 2)) : RK × Aff), 0, 5), (((.inl 446, (0, 0, 4)) : RK × Aff), (-900), 900), (((.inl 446, (0, 0, 6)) : RK × Aff), 1, 2), (((.inl 446, (0, 0, 7)) : RK × Aff), 0, 900)], []), ((0, 0), (0, 1, 1), [(((.inl 446, (0, 0, 2)) : RK × Aff), 2, 2), (((.inl 446, (0, 0, 4)) : RK × Aff), (-900), 4), (((.inl 446, (0, 0, 5)) : RK × Aff), 1, 3)], [])])
noncomputable def md_38 : MDT := (3, nb_X7_takeNumber, [])
theorem hc_38 : xctr kd0 sh0 rt0 bd0 un0 PR0 MT0 (ctL [(48, ct_2)]) 8 md_38 ct_38 = true := by decide +kernel
noncomputable def ct_39 : Ctr := ([(1, 446, 0), (0, 1, 1), (0, 99, 99)], [(((.inl 446, (0, 0, 1)) : RK × Aff), 0, 900)], [], [(10, 1, 7)], [((0, 0), (0, 0, 0), [(((.inl 446, (0, 0, 2)) : RK × Aff), 0, 5), (((.inl 446, (0, 0, 4)) : RK × Aff), (-900), 900), (((.inl 446, (0, 0, 6)) : RK × Aff), 1, 2), (((.inl 446, (0, 0, 7)) : RK × Aff), 0, 900)], []), ((0, 0), (0, 1, 1), [(((.inl 446, (0, 0, 2)) : RK × Aff), 2, 2), (((.inl 446, (0, 0, 4)) : RK × Aff), (-900), 4), (((.inl 446, (0, 0, 5)) : RK × Aff), 1, 99)], [])])
noncomputable def md_39 : MDT := (3, nb_X7_takeNumber, [])
theorem hc_39 : xctr kd0 sh0 rt0 bd0 un0 PR0 MT0 (ctL [(48, ct_2)]) 8 md_39 ct_39 = true := by decide +kernel
noncomputable def ct_40 : Ctr := ([(1, 446, 0), (0, 0, 0), (0, 9999, 9999)], [(((.inl 446, (0, 0, 1)) : RK × Aff), 0, 900)], [], [(10, 1, 7)], [((0, 0), (0, 0, 0), [(((.inl 446, (0, 0, 2)) : RK × Aff), 0, 5), (((.inl 446, (0, 0, 4)) : RK × Aff), (-900), 900), (((.inl 446, (0, 0, 6)) : RK × Aff), 1, 2), (((.inl 446, (0, 0, 7)) : RK × Aff), 0, 900)], []), ((0, 0), (0, 1, 1), [(((.inl 446, (0, 0, 2)) : RK × Aff), 2, 2), (((.inl 446, (0, 0, 4)) : RK × Aff), (-900), 4), (((.inl 446, (0, 0, 5)) : RK × Aff), 0, 9999)], [])])
noncomputable def md_40 : MDT := (3, nb_X7_takeNumber, [])
theorem hc_40 : xctr kd0 sh0 rt0 bd0 un0 PR0 MT0 (ctL [(48, ct_2)]) 8 md_40 ct_40 = true := by decide +kernel
noncomputable def ct_41 : Ctr := ([(1, 447, 0)], [(((.inl 446, (0, 0, 1)) : RK × Aff), 0, 900), (((.inl 46, (0, 0, 3)) : RK × Aff), 0, 8)], [], [(4, 3, 3), (4, 7, 7), (6, 0, 4), (6, 6, 8), (6, 10, 11), (10, 1, 7), (20, 0, 11)], [((0, 0), (0, 0, 0), [(((.inl 446, (0, 0, 6)) : RK × Aff), 1, 4), (((.inl 446, (0, 0, 7)) : RK × Aff), 0, 900)], []), ((0, 0), (0, 1, 1), [(((.inl 46, (0, 0, 3)) : RK × Aff), 1, 8), (((.inl 446, (0, 0, 2)) : RK × Aff), 3, 3), (((.inl 446, (0, 0, 4)) : RK × Aff), (-900), 900)], [])])
noncomputable def md_41 : MDT := (2, nb_X2_takeNewValley, [])
theorem hc_41 : xctr kd0 sh0 rt0 bd0 un0 PR0 MT0 (ctL [(52, ct_9), (5, ct_29), (72, ct_30), (54, ct_35), (60, ct_36), (55, ct_37), (55, ct_38), (55, ct_39), (55, ct_40)]) 8 md_41 ct_41 = true := by decide +kernel
noncomputable def ct_42 : Ctr := ([(1, 446, 0), (0, 0, 0), (0, 9, 9)], [(((.inl 446, (0, 0, 1)) : RK × Aff), 0, 900)], [], [(10, 1, 7)], [((0, 0), (0, 0, 0), [(((.inl 446, (0, 0, 2)) : RK × Aff), 0, 5), (((.inl 446, (0, 0, 4)) : RK × Aff), (-900), 900), (((.inl 446, (0, 0, 6)) : RK × Aff), 1, 2), (((.inl 446, (0, 0, 7)) : RK × Aff), 0, 900)], []), ((0, 0), (0, 1, 1), [(((.inl 446, (0, 0, 2)) : RK × Aff), 2, 2), (((.inl 446, (0, 0, 4)) : RK × Aff), (-900), 4), (((.inl 446, (0, 0, 5)) : RK × Aff), 0, 9)], [])])
noncomputable def md_42 : MDT := (3, nb_X7_takeNumber, [])
theorem hc_42 : xctr kd0 sh0 rt0 bd0 un0 PR0 MT0 (ctL [(48, ct_2)]) 8 md_42 ct_42 = true := by decide +kernel
noncomputable def ct_43 : Ctr := ([(1, 447, 0)], [(((.inl 446, (0, 0, 1)) : RK × Aff), 0, 900), (((.inl 46, (0, 0, 2)) : RK × Aff), 0, 12)], [], [(4, 2, 2), (5, 0, 8), (10, 1, 7)], [((0, 0), (0, 0, 0), [(((.inl 446, (0, 0, 6)) : RK × Aff), 1, 4), (((.inl 446, (0, 0, 7)) : RK × Aff), 0, 900)], []), ((0, 0), (0, 1, 1), [(((.inl 46, (0, 0, 2)) : RK × Aff), 1, 12), (((.inl 446, (0, 0, 2)) : RK × Aff), 3, 3), (((.inl 446, (0, 0, 4)) : RK × Aff), (-900), 900)], [])])
noncomputable def md_43 : MDT := (2, nb_X2_takeNewEcho, [])
theorem hc_43 : xctr kd0 sh0 rt0 bd0 un0 PR0 MT0 (ctL [(52, ct_9), (5, ct_29), (71, ct_32), (54, ct_35), (55, ct_37), (55, ct_39), (55, ct_42)]) 8 md_43 ct_43 = true := by decide +kernel
noncomputable def ct_44 : Ctr := ([(1, 447, 0)], [(((.inl 446, (0, 0, 1)) : RK × Aff), 0, 900)], [], [(4, 2, 3), (4, 7, 7), (5, 0, 8), (6, 0, 4), (6, 6, 8), (6, 10, 11), (10, 1, 7), (20, 0, 11)], [((0, 0), (0, 0, 0), [(((.inl 446, (0, 0, 6)) : RK × Aff), 1, 4), (((.inl 446, (0, 0, 7)) : RK × Aff), 0, 900)], []), ((0, 0), (0, 1, 1), [(((.inl 446, (0, 0, 2)) : RK × Aff), 3, 3), (((.inl 446, (0, 0, 4)) : RK × Aff), (-900), 900)], [])])
noncomputable def md_44 : MDT := (1, nb_X2_takeStatement, [])
theorem hc_44 : xctr kd0 sh0 rt0 bd0 un0 PR0 MT0 (ctL [(49, ct_20), (49, ct_24), (49, ct_28), (19, ct_34), (18, ct_41), (17, ct_43)]) 8 md_44 ct_44 = true := by decide +kernel
noncomputable def ct_45 : Ctr := ([(1, 447, 0)], [], [], [(4, 2, 10), (5, 0, 8), (6, 0, 4), (6, 6, 8), (6, 10, 11), (7, 0, 0), (7, 2, 2), (10, 1, 7), (20, 0, 11), (21, 0, 11)], [((0, 0), (0, 0, 0), [(((.inl 46, (0, 0, 4)) : RK × Aff), 0, 0), (((.inl 46, (0, 0, 5)) : RK × Aff), 0, 0), (((.inl 46, (0, 0, 6)) : RK × Aff), 0, 0), (((.inl 46, (0, 0, 8)) : RK × Aff), 0, 0), (((.inl 46, (0, 0, 9)) : RK × Aff), 0, 0), (((.inl 46, (0, 0, 10)) : RK × Aff), 0, 0), (((.inl 446, (0, 0, 6)) : RK × Aff), 1, 4), (((.inl 446, (0, 0, 7)) : RK × Aff), 0, 900)], []), ((0, 0), (0, 1, 1), [(((.inl 46, (0, 0, 4)) : RK × Aff), 0, 0), (((.inl 46, (0, 0, 5)) : RK × Aff), 0, 0), (((.inl 46, (0, 0, 6)) : RK × Aff), 0, 0), (((.inl 46, (0, 0, 8)) : RK × Aff), 0, 0), (((.inl 46, (0, 0, 9)) : RK × Aff), 0, 0), (((.inl 46, (0, 0, 10)) : RK × Aff), 0, 0), (((.inl 85, (0, 0, 0)) : RK × Aff), 1, 30), (((.inl 446, (0, 0, 2)) : RK × Aff), 0, 0), (((.inl 446, (0, 0, 4)) : RK × Aff), (-900), 900), (((.inl 46, (0, 0, 2)) : RK × Aff), 1, 12), (((.inl 46, (0, 0, 3)) : RK × Aff), 1, 8)], [])])
noncomputable def md_45 : MDT := (2, nb_X2_parse, [(4, ([(1, 0, 901)], [(((.inl 446, (0, 0, 2)) : RK × Aff), 3, 3), (((.inl 446, (0, 0, 4)) : RK × Aff), (-900), 900)], [(4, 2, 3), (4, 7, 7), (5, 0, 8), (6, 0, 4), (6, 6, 8), (6, 10, 11), (10, 1, 7), (20, 0, 11)], [], false, true, []))])
theorem hc_45 : xctr kd0 sh0 rt0 bd0 un0 PR0 MT0 (ctL [(48, ct_2), (14, ct_10), (15, ct_16), (16, ct_44)]) 8 md_45 ct_45 = true := by decide +kernel
noncomputable def ct_46 : Ctr := ([(2, 4, 0), (2, 4, 0)], [], [], [(4, 2, 10), (5, 0, 8), (6, 0, 4), (6, 6, 8), (6, 10, 11), (19, 0, 2), (20, 0, 11)], [((1, 0), (1, 0, 0), [], [])])
noncomputable def md_46 : MDT := (3, nb_X9_copyFrom, [(4, ([(2, 0, 8)], [], [(6, 0, 4), (6, 6, 8), (6, 10, 11), (19, 0, 2), (20, 0, 11)], [], false, true, [])), (1, ([(2, 0, 12)], [], [(5, 0, 8), (6, 0, 4), (6, 6, 8), (6, 10, 11), (19, 0, 2), (20, 0, 11)], [], false, true, []))])
theorem hc_46 : xctr kd0 sh0 rt0 bd0 un0 PR0 MT0 (ctL []) 8 md_46 ct_46 = true := by decide +kernel
noncomputable def ct_47 : Ctr := ([(1, 0, 0)], [], [], [(0, 13, 14), (1, 1, 1), (3, 0, 0), (3, 2, 2), (4, 2, 10), (5, 0, 8), (6, 0, 4), (6, 6, 8), (6, 10, 11), (7, 0, 0), (7, 2, 2), (8, 2, 2), (10, 1, 7), (16, 0, 11), (19, 0, 2), (20, 0, 11), (21, 0, 11)], [((2, 1), (1, 0, 0), [(((.inl 46, (0, 0, 4)) : RK × Aff), 0, 0), (((.inl 46, (0, 0, 5)) : RK × Aff), 0, 0), (((.inl 46, (0, 0, 6)) : RK × Aff), 0, 0), (((.inl 46, (0, 0, 8)) : RK × Aff), 0, 0), (((.inl 46, (0, 0, 9)) : RK × Aff), 0, 0), (((.inl 46, (0, 0, 10)) : RK × Aff), 0, 0), (((.inl 446, (0, 0, 6)) : RK × Aff), 1, 4), (((.inl 446, (0, 0, 7)) : RK × Aff), 0, 900), (((.inl 0, (0, 0, 13)) : RK × Aff), 1, 4), (((.inl 0, (0, 0, 14)) : RK × Aff), 0, 900), (((.inl 1, (0, 0, 1)) : RK × Aff), 0, 0)], []), ((0, 0), (0, 0, 12), [(((.inl 85, (0, 0, 0)) : RK × Aff), 1, 30), (((.inl 446, (0, 0, 2)) : RK × Aff), 0, 0), (((.inl 446, (0, 0, 4)) : RK × Aff), (-900), 900), (((.inl 1, (0, 0, 1)) : RK × Aff), 0, 0), (((.inl 5, (0, 0, 0)) : RK × Aff), 1, 30), (((.inl 126, (0, 0, 2)) : RK × Aff), 0, 0)], [])])
noncomputable def md_47 : MDT := (2, nb_X10_load, [])
theorem hc_47 : xctr kd0 sh0 rt0 bd0 un0 PR0 MT0 (ctL [(12, ct_45), (70, ct_46)]) 8 md_47 ct_47 = true := by decide +kernel
noncomputable def ct_48 : Ctr := ([(1, 0, 0)], [], [], [], [((0, 0), (0, (-2147483648), 2147483647), [], [])])
noncomputable def md_48 : MDT := (1, nb_X10_errorCode, [])
theorem hc_48 : xctr kd0 sh0 rt0 bd0 un0 PR0 MT0 (ctL []) 8 md_48 ct_48 = true := by decide +kernel
noncomputable def ct_49 : Ctr := ([(1, 0, 0)], [], [], [], [((0, 0), (0, (-2147483648), 2147483647), [], [])])
noncomputable def md_49 : MDT := (1, nb_X10_errorPosition, [])
theorem hc_49 : xctr kd0 sh0 rt0 bd0 un0 PR0 MT0 (ctL []) 8 md_49 ct_49 = true := by decide +kernel
noncomputable def ct_50 : Ctr := ([(1, 0, 0)], [], [], [], [((0, 0), (0, 0, 12), [], [])])
noncomputable def md_50 : MDT := (1, nb_X10_echoCount, [])
theorem hc_50 : xctr kd0 sh0 rt0 bd0 un0 PR0 MT0 (ctL []) 8 md_50 ct_50 = true := by decide +kernel
noncomputable def ct_51 : Ctr := ([(1, 0, 0)], [], [], [], [((0, 0), (0, 0, 8), [], [])])
noncomputable def md_51 : MDT := (1, nb_X10_valleyCount, [])
theorem hc_51 : xctr kd0 sh0 rt0 bd0 un0 PR0 MT0 (ctL []) 8 md_51 ct_51 = true := by decide +kernel
noncomputable def ct_52 : Ctr := ([(1, 0, 0)], [], [], [], [((0, 0), (0, (-2147483648), 2147483647), [], [])])
noncomputable def md_52 : MDT := (1, nb_X10_day, [])
theorem hc_52 : xctr kd0 sh0 rt0 bd0 un0 PR0 MT0 (ctL []) 8 md_52 ct_52 = true := by decide +kernel
noncomputable def ct_53 : Ctr := ([(1, 0, 0)], [], [], [], [((0, 0), (0, (-2147483648), 2147483647), [], [])])
noncomputable def md_53 : MDT := (1, nb_X10_seasonLength, [])
theorem hc_53 : xctr kd0 sh0 rt0 bd0 un0 PR0 MT0 (ctL []) 8 md_53 ct_53 = true := by decide +kernel
/-- by hand: J9_floorMod_7cf53 -/
noncomputable def ct_54 : Ctr := ([(0, (-2147483648), 2147483647), (0, 1, 12)], [], [], [], [((0, 0), (0, 0, 11), [], [])])
noncomputable def ct_55 : Ctr := ([(1, 0, 0), (0, (-2147483648), 2147483647)], [], [], [], [((2, 1), (1, 0, 0), [], []), ((0, 0), (0, 0, 0), [], []), ((0, 0), (0, (-2147483648), 2147483647), [], [])])
noncomputable def md_55 : MDT := (2, nb_X10_fogOf, [])
theorem hc_55 : xctr kd0 sh0 rt0 bd0 un0 PR0 MT0 (ctL [(335, ct_54)]) 8 md_55 ct_55 = true := by decide +kernel
noncomputable def ct_56 : Ctr := ([(1, 0, 0)], [], [], [], [((0, 0), (0, (-1), 11), [], [])])
noncomputable def md_56 : MDT := (1, nb_X10_findEcho, [])
theorem hc_56 : xctr kd0 sh0 rt0 bd0 un0 PR0 MT0 (ctL [(5, ct_29), (71, ct_32)]) 8 md_56 ct_56 = true := by decide +kernel
noncomputable def ct_57 : Ctr := ([(1, 0, 0)], [], [], [], [((0, 0), (0, (-1), 7), [], [])])
noncomputable def md_57 : MDT := (1, nb_X10_findValley, [])
theorem hc_57 : xctr kd0 sh0 rt0 bd0 un0 PR0 MT0 (ctL [(5, ct_29), (72, ct_30)]) 8 md_57 ct_57 = true := by decide +kernel
noncomputable def ct_58 : Ctr := ([(1, 0, 0), (0, (-2147483648), 2147483647)], [], [], [], [((2, 2), (1, 0, 0), [], []), ((0, 0), (0, (-2147483648), 2147483647), [], [])])
noncomputable def md_58 : MDT := (2, nb_X10_delayOf, [])
theorem hc_58 : xctr kd0 sh0 rt0 bd0 un0 PR0 MT0 (ctL []) 8 md_58 ct_58 = true := by decide +kernel
noncomputable def ct_59 : Ctr := ([(1, 0, 0), (0, (-2147483648), 2147483647)], [], [], [], [((2, 2), (1, 0, 0), [], []), ((0, 0), (0, (-2147483648), 2147483647), [], [])])
noncomputable def md_59 : MDT := (2, nb_X10_repeatsOf, [])
theorem hc_59 : xctr kd0 sh0 rt0 bd0 un0 PR0 MT0 (ctL []) 8 md_59 ct_59 = true := by decide +kernel
noncomputable def ct_60 : Ctr := ([(1, 0, 0), (0, (-2147483648), 2147483647)], [], [], [], [((2, 2), (1, 0, 0), [], []), ((0, 0), (0, (-2147483648), 2147483647), [], [])])
noncomputable def md_60 : MDT := (2, nb_X10_reserveWage, [])
theorem hc_60 : xctr kd0 sh0 rt0 bd0 un0 PR0 MT0 (ctL []) 8 md_60 ct_60 = true := by decide +kernel
noncomputable def ct_61 : Ctr := ([(1, 0, 0), (0, (-2147483648), 2147483647)], [], [], [], [((2, 2), (1, 0, 0), [], []), ((0, 0), (0, (-2147483648), 2147483647), [], [])])
noncomputable def md_61 : MDT := (2, nb_X10_resistanceOf, [])
theorem hc_61 : xctr kd0 sh0 rt0 bd0 un0 PR0 MT0 (ctL []) 8 md_61 ct_61 = true := by decide +kernel
noncomputable def ct_62 : Ctr := ([(1, 0, 0), (0, (-2147483648), 2147483647)], [], [], [], [((2, 2), (1, 0, 0), [], []), ((0, 0), (0, (-2147483648), 2147483647), [], [])])
noncomputable def md_62 : MDT := (2, nb_X10_savingsOf, [])
theorem hc_62 : xctr kd0 sh0 rt0 bd0 un0 PR0 MT0 (ctL []) 8 md_62 ct_62 = true := by decide +kernel
noncomputable def ct_63 : Ctr := ([(1, 0, 0), (0, (-2147483648), 2147483647)], [], [], [], [((2, 2), (1, 0, 0), [], []), ((0, 0), (0, (-2147483648), 2147483647), [], [])])
noncomputable def md_63 : MDT := (2, nb_X10_unpaidDays, [])
theorem hc_63 : xctr kd0 sh0 rt0 bd0 un0 PR0 MT0 (ctL []) 8 md_63 ct_63 = true := by decide +kernel
noncomputable def ct_64 : Ctr := ([(1, 0, 0), (0, (-2147483648), 2147483647)], [], [], [], [((2, 2), (1, 0, 0), [], []), ((0, 0), (0, (-1), 7), [], [])])
noncomputable def md_64 : MDT := (2, nb_X10_employerOf, [])
theorem hc_64 : xctr kd0 sh0 rt0 bd0 un0 PR0 MT0 (ctL []) 8 md_64 ct_64 = true := by decide +kernel
noncomputable def ct_65 : Ctr := ([(1, 0, 0), (0, (-2147483648), 2147483647)], [], [], [], [((2, 2), (1, 0, 0), [], []), ((0, 0), (0, (-2147483648), 2147483647), [], [])])
noncomputable def md_65 : MDT := (2, nb_X10_widthOf, [])
theorem hc_65 : xctr kd0 sh0 rt0 bd0 un0 PR0 MT0 (ctL []) 8 md_65 ct_65 = true := by decide +kernel
noncomputable def ct_66 : Ctr := ([(1, 0, 0), (0, (-2147483648), 2147483647)], [], [], [], [((2, 2), (1, 0, 0), [], []), ((0, 0), (0, (-2147483648), 2147483647), [], [])])
noncomputable def md_66 : MDT := (2, nb_X10_postsOf, [])
theorem hc_66 : xctr kd0 sh0 rt0 bd0 un0 PR0 MT0 (ctL []) 8 md_66 ct_66 = true := by decide +kernel
noncomputable def ct_67 : Ctr := ([(1, 0, 0), (0, (-2147483648), 2147483647)], [], [], [], [((2, 2), (1, 0, 0), [], []), ((0, 0), (0, (-2147483648), 2147483647), [], [])])
noncomputable def md_67 : MDT := (2, nb_X10_wageOf, [])
theorem hc_67 : xctr kd0 sh0 rt0 bd0 un0 PR0 MT0 (ctL []) 8 md_67 ct_67 = true := by decide +kernel
noncomputable def ct_68 : Ctr := ([(1, 0, 0), (0, (-2147483648), 2147483647)], [], [], [], [((2, 2), (1, 0, 0), [], []), ((0, 0), (0, (-2147483648), 2147483647), [], [])])
noncomputable def md_68 : MDT := (2, nb_X10_purseOf, [])
theorem hc_68 : xctr kd0 sh0 rt0 bd0 un0 PR0 MT0 (ctL []) 8 md_68 ct_68 = true := by decide +kernel
noncomputable def ct_69 : Ctr := ([(1, 0, 0), (0, (-2147483648), 2147483647)], [], [], [], [((2, 2), (1, 0, 0), [], []), ((0, 0), (0, 0, 3), [], [])])
noncomputable def md_69 : MDT := (2, nb_X10_staffCount, [])
theorem hc_69 : xctr kd0 sh0 rt0 bd0 un0 PR0 MT0 (ctL []) 8 md_69 ct_69 = true := by decide +kernel
noncomputable def ct_70 : Ctr := ([(1, 0, 0), (0, (-2147483648), 2147483647), (0, (-2147483648), 2147483647)], [], [], [], [((2, 2), (1, 0, 0), [], []), ((0, 0), (0, (-1), (-1)), [], []), ((0, 0), (0, 0, 11), [], [])])
noncomputable def md_70 : MDT := (4, nb_X10_staffMember, [])
theorem hc_70 : xctr kd0 sh0 rt0 bd0 un0 PR0 MT0 (ctL []) 8 md_70 ct_70 = true := by decide +kernel
noncomputable def ct_71 : Ctr := ([(1, 0, 0), (0, (-2147483648), 2147483647), (0, (-2147483648), 2147483647)], [], [], [], [((2, 2), (1, 0, 0), [], []), ((0, 0), (0, 1, 1), [], []), ((0, 0), (0, 0, 0), [], [])])
noncomputable def md_71 : MDT := (3, nb_X10_isTested, [])
theorem hc_71 : xctr kd0 sh0 rt0 bd0 un0 PR0 MT0 (ctL []) 8 md_71 ct_71 = true := by decide +kernel
end
section
noncomputable def ct_72 : Ctr := ([(2, 4, 0), (0, 0, 7), (0, 0, 11)], [], [], [], [((0, 0), (0, (-2147483648), 2147483647), [], [])])
noncomputable def md_72 : MDT := (4, nb_X9_trueScore, [])
theorem hc_72 : xctr kd0 sh0 rt0 bd0 un0 PR0 MT0 (ctL []) 8 md_72 ct_72 = true := by decide +kernel
noncomputable def ct_73 : Ctr := ([(2, 4, 0), (0, 0, 7), (0, 0, 11)], [], [], [], [((0, 0), (0, (-2147483648), 2147483647), [], [])])
noncomputable def md_73 : MDT := (3, nb_X9_scoreSeen, [])
theorem hc_73 : xctr kd0 sh0 rt0 bd0 un0 PR0 MT0 (ctL [(73, ct_72)]) 8 md_73 ct_73 = true := by decide +kernel
noncomputable def ct_74 : Ctr := ([(1, 0, 0), (0, (-2147483648), 2147483647), (0, (-2147483648), 2147483647)], [], [], [], [((2, 2), (1, 0, 0), [], []), ((0, 0), (0, (-2147483648), 2147483647), [], [])])
noncomputable def md_74 : MDT := (3, nb_X10_seenScore, [])
theorem hc_74 : xctr kd0 sh0 rt0 bd0 un0 PR0 MT0 (ctL [(74, ct_73)]) 8 md_74 ct_74 = true := by decide +kernel
noncomputable def ct_75 : Ctr := ([(1, 0, 0), (0, (-2147483648), 2147483647), (0, (-2147483648), 2147483647)], [], [], [], [((2, 2), (1, 0, 0), [], []), ((0, 0), (0, 1, 1), [], []), ((0, 0), (0, 2, 2), [], []), ((0, 0), (0, 3, 3), [], []), ((0, 0), (0, 0, 0), [], [])])
noncomputable def md_75 : MDT := (3, nb_X10_pairReason, [])
theorem hc_75 : xctr kd0 sh0 rt0 bd0 un0 PR0 MT0 (ctL [(74, ct_73)]) 8 md_75 ct_75 = true := by decide +kernel
noncomputable def ct_76 : Ctr := ([(2, 4, 0), (0, 0, 7), (0, 0, 11)], [], [], [], [((0, 0), (0, 0, 1), [], [])])
noncomputable def md_76 : MDT := (3, nb_X9_isAcceptable, [])
theorem hc_76 : xctr kd0 sh0 rt0 bd0 un0 PR0 MT0 (ctL [(74, ct_73)]) 8 md_76 ct_76 = true := by decide +kernel
noncomputable def ct_77 : Ctr := ([(2, 4, 0), (0, 0, 7), (0, 0, 7)], [], [], [], [((0, 0), (0, 0, 1), [], [])])
noncomputable def md_77 : MDT := (5, nb_X9_paysBetter, [])
theorem hc_77 : xctr kd0 sh0 rt0 bd0 un0 PR0 MT0 (ctL []) 8 md_77 ct_77 = true := by decide +kernel
noncomputable def ct_78 : Ctr := ([(2, 4, 0), (0, 0, 7), (0, 0, 11)], [], [], [], [((0, 0), (0, (-2147483648), 2147483647), [], [])])
noncomputable def md_78 : MDT := (5, nb_X9_rankOfValley, [(1, ([(4, 0, 8), (3, (-2147483648), 2147483647)], [], [], [], false, true, []))])
theorem hc_78 : xctr kd0 sh0 rt0 bd0 un0 PR0 MT0 (ctL [(76, ct_76), (77, ct_77)]) 8 md_78 ct_78 = true := by decide +kernel
noncomputable def ct_79 : Ctr := ([(1, 0, 0), (0, (-2147483648), 2147483647), (0, (-2147483648), 2147483647)], [], [], [], [((2, 2), (1, 0, 0), [], []), ((0, 0), (0, 0, 7), [], []), ((0, 0), (0, (-1), (-1)), [], [])])
noncomputable def md_79 : MDT := (4, nb_X10_preferredValley, [(1, ([(3, 0, 8)], [], [], [], false, true, []))])
theorem hc_79 : xctr kd0 sh0 rt0 bd0 un0 PR0 MT0 (ctL [(76, ct_76), (79, ct_78)]) 8 md_79 ct_79 = true := by decide +kernel
noncomputable def ct_80 : Ctr := ([(2, 4, 0), (0, 0, 7), (0, 0, 11), (0, 0, 11)], [], [], [], [((0, 0), (0, 0, 1), [], [])])
noncomputable def md_80 : MDT := (6, nb_X9_prefersEcho, [])
theorem hc_80 : xctr kd0 sh0 rt0 bd0 un0 PR0 MT0 (ctL [(74, ct_73)]) 8 md_80 ct_80 = true := by decide +kernel
noncomputable def ct_81 : Ctr := ([(2, 4, 0), (0, 0, 7), (0, 0, 11)], [], [], [], [((0, 0), (0, (-2147483648), 2147483647), [], [])])
noncomputable def md_81 : MDT := (5, nb_X9_rankOfEcho, [(1, ([(4, 0, 12), (3, (-2147483648), 2147483647)], [], [], [], false, true, []))])
theorem hc_81 : xctr kd0 sh0 rt0 bd0 un0 PR0 MT0 (ctL [(76, ct_76), (78, ct_80)]) 8 md_81 ct_81 = true := by decide +kernel
noncomputable def ct_82 : Ctr := ([(1, 0, 0), (0, (-2147483648), 2147483647), (0, (-2147483648), 2147483647)], [], [], [], [((2, 2), (1, 0, 0), [], []), ((0, 0), (0, 0, 11), [], []), ((0, 0), (0, (-1), (-1)), [], [])])
noncomputable def md_82 : MDT := (4, nb_X10_preferredEcho, [(1, ([(3, 0, 12)], [], [], [], false, true, []))])
theorem hc_82 : xctr kd0 sh0 rt0 bd0 un0 PR0 MT0 (ctL [(76, ct_76), (80, ct_81)]) 8 md_82 ct_82 = true := by decide +kernel
noncomputable def ct_83 : Ctr := ([(2, 4, 0), (0, 0, 7), (0, 0, 11)], [], [], [], [((0, 0), (0, 0, 1), [], [])])
noncomputable def md_83 : MDT := (4, nb_X9_wouldMove, [])
theorem hc_83 : xctr kd0 sh0 rt0 bd0 un0 PR0 MT0 (ctL [(76, ct_76), (77, ct_77)]) 8 md_83 ct_83 = true := by decide +kernel
noncomputable def ct_84 : Ctr := ([(2, 4, 0), (0, 0, 7), (0, 0, 11)], [], [], [], [((0, 0), (0, 0, 1), [], [])])
noncomputable def md_84 : MDT := (5, nb_X9_wouldTake, [(3, ([(4, 0, 3)], [], [], [], false, true, []))])
theorem hc_84 : xctr kd0 sh0 rt0 bd0 un0 PR0 MT0 (ctL [(78, ct_80)]) 8 md_84 ct_84 = true := by decide +kernel
noncomputable def ct_85 : Ctr := ([(2, 4, 0), (0, 0, 7), (0, 0, 11)], [], [], [], [((0, 0), (0, 0, 1), [], [])])
noncomputable def md_85 : MDT := (3, nb_X9_isBlocking, [])
theorem hc_85 : xctr kd0 sh0 rt0 bd0 un0 PR0 MT0 (ctL [(76, ct_76), (82, ct_83), (83, ct_84)]) 8 md_85 ct_85 = true := by decide +kernel
noncomputable def ct_86 : Ctr := ([(1, 0, 0)], [], [], [], [((0, 0), (0, (-2147483648), 2147483647), [], [])])
noncomputable def md_86 : MDT := (4, nb_X10_blockingPairs, [(3, ([(3, 0, 12), (1, (-2147483648), 2147483647)], [], [], [], false, true, [])), (1, ([(2, 0, 8), (1, (-2147483648), 2147483647)], [], [], [], false, true, []))])
theorem hc_86 : xctr kd0 sh0 rt0 bd0 un0 PR0 MT0 (ctL [(81, ct_85)]) 8 md_86 ct_86 = true := by decide +kernel
noncomputable def ct_87 : Ctr := ([(1, 440, 0), (2, 4, 0)], [], [], [(9, 5, 5), (23, 0, 11), (24, 0, 11), (25, 0, 7), (27, 0, 107)], [((1, 0), (1, 0, 0), [], [])])
noncomputable def md_87 : MDT := (3, nb_X5_enrol, [(4, ([(2, 0, 12)], [(((.inl 440, (0, 0, 5)) : RK × Aff), 0, 108)], [(9, 5, 5), (23, 0, 11), (24, 0, 11), (27, 0, 107)], [], false, true, [])), (1, ([(2, 0, 8)], [(((.inl 440, (0, 0, 5)) : RK × Aff), 0, 0)], [(9, 5, 5), (23, 0, 11), (24, 0, 11), (25, 0, 7), (27, 0, 107)], [], false, true, []))])
theorem hc_87 : xctr kd0 sh0 rt0 bd0 un0 PR0 MT0 (ctL []) 8 md_87 ct_87 = true := by decide +kernel
noncomputable def ct_88 : Ctr := ([(1, 440, 0), (2, 4, 0)], [], [], [(23, 0, 11), (26, 0, 95)], [((1, 0), (1, 0, 0), [], [])])
noncomputable def md_88 : MDT := (5, nb_X5_weigh, [(3, ([(3, 0, 12)], [], [(23, 0, 11), (26, 0, 95)], [], false, true, [])), (1, ([(2, 0, 8)], [], [(23, 0, 11), (26, 0, 95)], [], false, true, []))])
theorem hc_88 : xctr kd0 sh0 rt0 bd0 un0 PR0 MT0 (ctL [(74, ct_73)]) 8 md_88 ct_88 = true := by decide +kernel
noncomputable def ct_89 : Ctr := ([(1, 440, 0), (2, 4, 0), (0, 0, 11)], [], [], [], [((0, 0), (0, (-1), 7), [], [])])
noncomputable def md_89 : MDT := (6, nb_X5_favourite, [(1, ([(4, 0, 8), (3, (-1), 7)], [], [], [], false, true, []))])
theorem hc_89 : xctr kd0 sh0 rt0 bd0 un0 PR0 MT0 (ctL [(77, ct_77)]) 8 md_89 ct_89 = true := by decide +kernel
noncomputable def ct_90 : Ctr := ([(1, 440, 0), (0, 0, 7), (0, 0, 11), (0, 0, 11)], [], [], [], [((0, 0), (0, 0, 1), [], [])])
noncomputable def md_90 : MDT := (6, nb_X5_prefers, [])
theorem hc_90 : xctr kd0 sh0 rt0 bd0 un0 PR0 MT0 (ctL []) 8 md_90 ct_90 = true := by decide +kernel
noncomputable def ct_91 : Ctr := ([(1, 440, 0), (2, 4, 0), (0, 0, 7)], [], [], [], [((0, 0), (0, (-1), 11), [], [])])
noncomputable def md_91 : MDT := (5, nb_X5_leastKept, [(1, ([(4, 0, 12), (3, (-1), 11)], [], [], [], false, true, []))])
theorem hc_91 : xctr kd0 sh0 rt0 bd0 un0 PR0 MT0 (ctL [(37, ct_90)]) 8 md_91 ct_91 = true := by decide +kernel
noncomputable def ct_92 : Ctr := ([(1, 440, 0), (2, 4, 0), (0, 0, 7), (0, 0, 11)], [], [], [(9, 5, 5), (24, 0, 11), (25, 0, 7), (27, 0, 107)], [((1, 0), (1, 0, 0), [], [])])
noncomputable def md_92 : MDT := (5, nb_X5_apply, [])
theorem hc_92 : xctr kd0 sh0 rt0 bd0 un0 PR0 MT0 (ctL [(37, ct_90), (36, ct_91)]) 8 md_92 ct_92 = true := by decide +kernel
noncomputable def ct_93 : Ctr := ([(2, 4, 0), (0, 0, 7), (0, 0, 11)], [], [], [(4, 5, 5), (5, 7, 7), (6, 6, 6), (19, 0, 2)], [((1, 0), (1, 0, 0), [], [])])
noncomputable def md_93 : MDT := (3, nb_X9_employ, [])
theorem hc_93 : xctr kd0 sh0 rt0 bd0 un0 PR0 MT0 (ctL []) 8 md_93 ct_93 = true := by decide +kernel
noncomputable def ct_94 : Ctr := ([(1, 440, 0), (2, 4, 0)], [], [], [(4, 5, 5), (5, 7, 7), (6, 6, 6), (19, 0, 2)], [((0, 0), (0, (-2147483648), 2147483647), [], [])])
noncomputable def md_94 : MDT := (5, nb_X5_sign, [(3, ([(4, 0, 12), (2, (-2147483648), 2147483647)], [], [(4, 5, 5), (5, 7, 7), (6, 6, 6), (19, 0, 2)], [], false, true, [])), (1, ([(3, 0, 8), (2, (-2147483648), 2147483647)], [], [(4, 5, 5), (5, 7, 7), (6, 6, 6), (19, 0, 2)], [], false, true, []))])
theorem hc_94 : xctr kd0 sh0 rt0 bd0 un0 PR0 MT0 (ctL [(85, ct_93)]) 8 md_94 ct_94 = true := by decide +kernel
noncomputable def ct_95 : Ctr := ([(1, 440, 0), (2, 4, 0)], [], [], [(4, 5, 5), (5, 7, 7), (6, 6, 6), (9, 5, 5), (19, 0, 2), (23, 0, 11), (24, 0, 11), (25, 0, 7), (26, 0, 95), (27, 0, 107)], [((0, 0), (0, (-2147483648), 2147483647), [], [])])
noncomputable def md_95 : MDT := (5, nb_X5_hold, [(1, ([(2, 0, 108)], [], [(4, 5, 5), (5, 7, 7), (6, 6, 6), (9, 5, 5), (19, 0, 2), (23, 0, 11), (24, 0, 11), (25, 0, 7), (27, 0, 107)], [], false, true, []))])
theorem hc_95 : xctr kd0 sh0 rt0 bd0 un0 PR0 MT0 (ctL [(31, ct_87), (32, ct_88), (34, ct_89), (35, ct_92), (38, ct_94)]) 8 md_95 ct_95 = true := by decide +kernel
noncomputable def ct_96 : Ctr := ([(1, 0, 0), (0, (-2147483648), 2147483647)], [], [], [(4, 2, 10), (5, 0, 8), (6, 0, 4), (6, 6, 8), (6, 10, 11), (9, 5, 5), (19, 0, 2), (20, 0, 11), (23, 0, 11), (24, 0, 11), (25, 0, 7), (26, 0, 95), (27, 0, 107)], [((2, 2), (1, 0, 0), [], []), ((0, 0), (0, (-1), 7), [], [])])
noncomputable def md_96 : MDT := (2, nb_X10_fairResult, [])
theorem hc_96 : xctr kd0 sh0 rt0 bd0 un0 PR0 MT0 (ctL [(70, ct_46), (30, ct_95)]) 8 md_96 ct_96 = true := by decide +kernel
noncomputable def ct_97 : Ctr := ([(2, 4, 0), (2, 6, 0)], [], [], [(4, 8, 8), (6, 4, 4), (6, 10, 10), (20, 0, 11)], [((1, 0), (1, 0, 0), [], [])])
noncomputable def md_97 : MDT := (5, nb_X9_hearReplies, [(1, ([(3, 0, 3), (2, (-2147483648), 2147483647)], [], [(4, 8, 8), (6, 4, 4), (6, 10, 10), (20, 0, 11)], [], false, true, []))])
theorem hc_97 : xctr kd0 sh0 rt0 bd0 un0 PR0 MT0 (ctL []) 8 md_97 ct_97 = true := by decide +kernel
noncomputable def ct_98 : Ctr := ([(2, 4, 0), (2, 6, 0)], [], [], [(5, 5, 6), (6, 4, 4), (6, 11, 11)], [((1, 0), (1, 0, 0), [], [])])
noncomputable def md_98 : MDT := (5, nb_X9_payStaff, [(1, ([(2, 0, 3)], [], [(5, 5, 6), (6, 4, 4), (6, 11, 11)], [], false, true, []))])
theorem hc_98 : xctr kd0 sh0 rt0 bd0 un0 PR0 MT0 (ctL []) 8 md_98 ct_98 = true := by decide +kernel
noncomputable def ct_99 : Ctr := ([(2, 4, 0)], [], [], [(4, 8, 8), (5, 5, 6), (6, 4, 4), (6, 10, 11), (20, 0, 11)], [((1, 0), (1, 0, 0), [], [])])
noncomputable def md_99 : MDT := (2, nb_X9_work, [(1, ([(1, 0, 8)], [], [(4, 8, 8), (5, 5, 6), (6, 4, 4), (6, 10, 11), (20, 0, 11)], [], false, true, []))])
theorem hc_99 : xctr kd0 sh0 rt0 bd0 un0 PR0 MT0 (ctL [(89, ct_97), (90, ct_98)]) 8 md_99 ct_99 = true := by decide +kernel
noncomputable def ct_100 : Ctr := ([(2, 4, 0), (0, 0, 11)], [], [], [(4, 6, 6), (5, 6, 7), (6, 6, 6), (19, 0, 2)], [((1, 0), (1, 0, 0), [], [])])
noncomputable def md_100 : MDT := (3, nb_X9_endContract, [])
theorem hc_100 : xctr kd0 sh0 rt0 bd0 un0 PR0 MT0 (ctL []) 8 md_100 ct_100 = true := by decide +kernel
noncomputable def ct_101 : Ctr := ([(2, 4, 0), (0, (-2147483648), 2147483647)], [], [], [(4, 6, 6), (5, 6, 8), (6, 6, 6), (6, 8, 8), (19, 0, 2)], [((0, 0), (0, (-2147483648), 2147483647), [], [])])
noncomputable def md_101 : MDT := (5, nb_X9_desert, [(1, ([(3, 0, 12), (2, (-2147483648), 2147483647)], [], [(4, 6, 6), (5, 6, 8), (6, 6, 6), (6, 8, 8), (19, 0, 2)], [], false, true, []))])
theorem hc_101 : xctr kd0 sh0 rt0 bd0 un0 PR0 MT0 (ctL [(86, ct_100)]) 8 md_101 ct_101 = true := by decide +kernel
noncomputable def ct_102 : Ctr := ([(2, 4, 0)], [], [], [(4, 6, 6), (5, 6, 7), (6, 6, 6), (6, 8, 8), (19, 0, 2)], [((1, 0), (1, 0, 0), [], [])])
noncomputable def md_102 : MDT := (2, nb_X9_endSeason, [(4, ([(1, 0, 8)], [], [(6, 8, 8)], [], false, true, [])), (1, ([(1, 0, 12)], [], [(4, 6, 6), (5, 6, 7), (6, 6, 6), (6, 8, 8), (19, 0, 2)], [], false, true, []))])
theorem hc_102 : xctr kd0 sh0 rt0 bd0 un0 PR0 MT0 (ctL [(86, ct_100)]) 8 md_102 ct_102 = true := by decide +kernel
noncomputable def ct_103 : Ctr := ([(1, 0, 0), (2, 4, 0), (0, 0, 1800)], [], [], [(4, 4, 6), (4, 8, 8), (5, 5, 8), (6, 4, 4), (6, 6, 6), (6, 8, 8), (6, 10, 11), (9, 5, 5), (19, 0, 2), (20, 0, 11), (23, 0, 11), (24, 0, 11), (25, 0, 7), (26, 0, 95), (27, 0, 107)], [((0, 0), (0, (-2147483648), 2147483647), [], [])])
noncomputable def md_103 : MDT := (5, nb_X10_letDaysPass, [(1, ([(4, 0, 4389), (3, (-2147483648), 2147483647)], [], [(4, 4, 6), (4, 8, 8), (5, 5, 8), (6, 4, 4), (6, 6, 6), (6, 8, 8), (6, 10, 11), (9, 5, 5), (19, 0, 2), (20, 0, 11), (23, 0, 11), (24, 0, 11), (25, 0, 7), (26, 0, 95), (27, 0, 107)], [], false, true, []))])
theorem hc_103 : xctr kd0 sh0 rt0 bd0 un0 PR0 MT0 (ctL [(335, ct_54), (30, ct_95), (88, ct_99), (91, ct_101), (87, ct_102)]) 8 md_103 ct_103 = true := by decide +kernel
noncomputable def ct_104 : Ctr := ([(1, 0, 0), (0, (-2147483648), 2147483647), (0, (-2147483648), 2147483647)], [], [], [(4, 2, 10), (5, 0, 8), (6, 0, 4), (6, 6, 8), (6, 10, 11), (9, 5, 5), (19, 0, 2), (20, 0, 11), (23, 0, 11), (24, 0, 11), (25, 0, 7), (26, 0, 95), (27, 0, 107)], [((2, 2), (1, 0, 0), [], []), ((2, 1), (1, 0, 0), [(((.inl 7, (0, 0, 2)) : RK × Aff), 1, 12)], []), ((0, 0), (0, (-2147483648), 2147483647), [], [])])
noncomputable def md_104 : MDT := (3, nb_X10_savingsAfter, [])
theorem hc_104 : xctr kd0 sh0 rt0 bd0 un0 PR0 MT0 (ctL [(70, ct_46), (169, ct_103)]) 8 md_104 ct_104 = true := by decide +kernel
noncomputable def ct_105 : Ctr := ([(1, 0, 0), (0, (-2147483648), 2147483647), (0, (-2147483648), 2147483647)], [], [], [(4, 2, 10), (5, 0, 8), (6, 0, 4), (6, 6, 8), (6, 10, 11), (9, 5, 5), (19, 0, 2), (20, 0, 11), (23, 0, 11), (24, 0, 11), (25, 0, 7), (26, 0, 95), (27, 0, 107)], [((2, 2), (1, 0, 0), [], []), ((2, 1), (1, 0, 0), [(((.inl 7, (0, 0, 3)) : RK × Aff), 1, 8)], []), ((0, 0), (0, (-2147483648), 2147483647), [], [])])
noncomputable def md_105 : MDT := (3, nb_X10_purseAfter, [])
theorem hc_105 : xctr kd0 sh0 rt0 bd0 un0 PR0 MT0 (ctL [(70, ct_46), (169, ct_103)]) 8 md_105 ct_105 = true := by decide +kernel
noncomputable def ct_106 : Ctr := ([(1, 0, 0), (0, (-2147483648), 2147483647)], [], [], [(4, 2, 10), (5, 0, 8), (6, 0, 4), (6, 6, 8), (6, 10, 11), (9, 5, 5), (19, 0, 2), (20, 0, 11), (23, 0, 11), (24, 0, 11), (25, 0, 7), (26, 0, 95), (27, 0, 107)], [((2, 2), (1, 0, 0), [], []), ((0, 0), (0, 1, 120), [], []), ((0, 0), (0, (-1), (-1)), [], [])])
noncomputable def md_106 : MDT := (4, nb_X10_desertsIn, [(1, ([(3, 1, 121)], [], [(4, 4, 6), (4, 8, 8), (5, 5, 8), (6, 4, 4), (6, 6, 6), (6, 8, 8), (6, 10, 11), (9, 5, 5), (19, 0, 2), (20, 0, 11), (23, 0, 11), (24, 0, 11), (25, 0, 7), (26, 0, 95), (27, 0, 107)], [], false, true, []))])
theorem hc_106 : xctr kd0 sh0 rt0 bd0 un0 PR0 MT0 (ctL [(70, ct_46), (169, ct_103)]) 8 md_106 ct_106 = true := by decide +kernel
noncomputable def ct_107 : Ctr := ([(1, 0, 0), (0, (-2147483648), 2147483647), (0, (-2147483648), 2147483647)], [], [], [(4, 2, 10), (5, 0, 8), (6, 0, 4), (6, 6, 8), (6, 10, 11), (9, 5, 5), (19, 0, 2), (20, 0, 11), (23, 0, 11), (24, 0, 11), (25, 0, 7), (26, 0, 95), (27, 0, 107)], [((2, 2), (1, 0, 0), [], []), ((0, 0), (0, 1, 99), [], []), ((0, 0), (0, (-1), (-1)), [], [])])
noncomputable def md_107 : MDT := (4, nb_X10_leastWage, [(1, ([(3, 1, 100)], [], [(4, 2, 10), (5, 0, 8), (6, 0, 4), (6, 6, 8), (6, 10, 11), (9, 5, 5), (19, 0, 2), (20, 0, 11), (23, 0, 11), (24, 0, 11), (25, 0, 7), (26, 0, 95), (27, 0, 107)], [], false, true, []))])
theorem hc_107 : xctr kd0 sh0 rt0 bd0 un0 PR0 MT0 (ctL [(70, ct_46), (30, ct_95)]) 8 md_107 ct_107 = true := by decide +kernel
end
section
noncomputable def ct_108 : Ctr := ([(2, 4, 0), (0, 0, 7), (0, 0, 11)], [], [], [], [((0, 0), (0, 0, 1), [], [])])
noncomputable def md_108 : MDT := (3, nb_X9_canTest, [])
theorem hc_108 : xctr kd0 sh0 rt0 bd0 un0 PR0 MT0 (ctL []) 8 md_108 ct_108 = true := by decide +kernel
noncomputable def ct_109 : Ctr := ([(1, 0, 0), (0, (-2147483648), 2147483647)], [], [], [], [((2, 2), (1, 0, 0), [], []), ((0, 0), (0, (-1), 11), [], [])])
noncomputable def md_109 : MDT := (6, nb_X10_bestTest, [(1, ([(4, 0, 12), (2, (-1), 11), (3, (-2147483648), 2147483647)], [], [], [], false, true, []))])
theorem hc_109 : xctr kd0 sh0 rt0 bd0 un0 PR0 MT0 (ctL [(73, ct_72), (84, ct_108)]) 8 md_109 ct_109 = true := by decide +kernel
noncomputable def ct_110 : Ctr := ([(1, 0, 0)], [], [], [], [((0, 0), (0, 0, 11), [], [])])
noncomputable def md_110 : MDT := (3, nb_X10_richestEcho, [(1, ([(2, 1, 12), (1, 0, 11)], [], [], [], false, true, []))])
theorem hc_110 : xctr kd0 sh0 rt0 bd0 un0 PR0 MT0 (ctL []) 8 md_110 ct_110 = true := by decide +kernel
noncomputable def ct_111 : Ctr := ([(1, 0, 0), (0, (-2147483648), 2147483647), (0, (-2147483648), 2147483647)], [], [], [], [((2, 2), (1, 0, 0), [], []), ((0, 0), (0, (-2147483648), 2147483647), [], [])])
noncomputable def md_111 : MDT := (3, nb_X10_daysServed, [])
theorem hc_111 : xctr kd0 sh0 rt0 bd0 un0 PR0 MT0 (ctL []) 8 md_111 ct_111 = true := by decide +kernel
noncomputable def ct_112 : Ctr := ([(1, 0, 0)], [], [], [], [((0, 0), (0, (-2147483648), 2147483647), [], [])])
noncomputable def md_112 : MDT := (1, nb_X10_contractsMade, [])
theorem hc_112 : xctr kd0 sh0 rt0 bd0 un0 PR0 MT0 (ctL []) 8 md_112 ct_112 = true := by decide +kernel
noncomputable def ct_113 : Ctr := ([(1, 0, 0)], [], [], [], [((0, 0), (0, (-2147483648), 2147483647), [], [])])
noncomputable def md_113 : MDT := (1, nb_X10_contractsEnded, [])
theorem hc_113 : xctr kd0 sh0 rt0 bd0 un0 PR0 MT0 (ctL []) 8 md_113 ct_113 = true := by decide +kernel
noncomputable def ct_114 : Ctr := ([(1, 0, 0), (0, (-2147483648), 2147483647)], [], [], [], [((2, 2), (1, 0, 0), [], []), ((0, 0), (0, (-2147483648), 2147483647), [], [])])
noncomputable def md_114 : MDT := (2, nb_X10_desertions, [])
theorem hc_114 : xctr kd0 sh0 rt0 bd0 un0 PR0 MT0 (ctL []) 8 md_114 ct_114 = true := by decide +kernel
noncomputable def ct_115 : Ctr := ([(1, 0, 0), (0, (-2147483648), 2147483647)], [], [], [], [((2, 2), (1, 0, 0), [], []), ((0, 0), (0, (-2147483648), 2147483647), [], [])])
noncomputable def md_115 : MDT := (2, nb_X10_repliesHeard, [])
theorem hc_115 : xctr kd0 sh0 rt0 bd0 un0 PR0 MT0 (ctL []) 8 md_115 ct_115 = true := by decide +kernel
noncomputable def ct_116 : Ctr := ([(1, 0, 0), (0, (-2147483648), 2147483647)], [], [], [], [((2, 2), (1, 0, 0), [], []), ((0, 0), (0, (-2147483648), 2147483647), [], [])])
noncomputable def md_116 : MDT := (2, nb_X10_wagesPaid, [])
theorem hc_116 : xctr kd0 sh0 rt0 bd0 un0 PR0 MT0 (ctL []) 8 md_116 ct_116 = true := by decide +kernel
noncomputable def ct_117 : Ctr := ([(2, 4, 0)], [], [], [], [((0, 0), (0, (-2147483648), 2147483647), [], [])])
noncomputable def md_117 : MDT := (3, nb_X9_moneyInPurses, [(1, ([(2, 0, 8), (1, (-2147483648), 2147483647)], [], [], [], false, true, []))])
theorem hc_117 : xctr kd0 sh0 rt0 bd0 un0 PR0 MT0 (ctL []) 8 md_117 ct_117 = true := by decide +kernel
noncomputable def ct_118 : Ctr := ([(2, 4, 0)], [], [], [], [((0, 0), (0, (-2147483648), 2147483647), [], [])])
noncomputable def md_118 : MDT := (3, nb_X9_moneySaved, [(1, ([(2, 0, 12), (1, (-2147483648), 2147483647)], [], [], [], false, true, []))])
theorem hc_118 : xctr kd0 sh0 rt0 bd0 un0 PR0 MT0 (ctL []) 8 md_118 ct_118 = true := by decide +kernel
noncomputable def ct_119 : Ctr := ([(1, 0, 0)], [], [], [], [((0, 0), (0, (-2147483648), 2147483647), [], [])])
noncomputable def md_119 : MDT := (1, nb_X10_moneyImbalance, [])
theorem hc_119 : xctr kd0 sh0 rt0 bd0 un0 PR0 MT0 (ctL [(94, ct_117), (95, ct_118)]) 8 md_119 ct_119 = true := by decide +kernel
noncomputable def ct_120 : Ctr := ([(2, 4, 0)], [], [], [], [((0, 0), (0, (-2147483648), 2147483647), [], [])])
noncomputable def md_120 : MDT := (3, nb_X9_contracts, [(1, ([(2, 0, 8), (1, (-2147483648), 2147483647)], [], [], [], false, true, []))])
theorem hc_120 : xctr kd0 sh0 rt0 bd0 un0 PR0 MT0 (ctL []) 8 md_120 ct_120 = true := by decide +kernel
noncomputable def ct_121 : Ctr := ([(1, 0, 0)], [], [], [], [((0, 0), (0, (-2147483648), 2147483647), [], [])])
noncomputable def md_121 : MDT := (1, nb_X10_contractImbalance, [])
theorem hc_121 : xctr kd0 sh0 rt0 bd0 un0 PR0 MT0 (ctL [(96, ct_120)]) 8 md_121 ct_121 = true := by decide +kernel
noncomputable def ct_122 : Ctr := ([(2, 4, 0), (0, (-2147483648), 2147483647)], [], [], [], [((0, 0), (0, (-2147483648), 2147483647), [], [])])
noncomputable def md_122 : MDT := (5, nb_X9_valleysServedBy, [(3, ([(4, 0, 3), (2, (-2147483648), 2147483647)], [], [], [], false, true, [])), (1, ([(3, 0, 8), (2, (-2147483648), 2147483647)], [], [], [], false, true, []))])
theorem hc_122 : xctr kd0 sh0 rt0 bd0 un0 PR0 MT0 (ctL []) 8 md_122 ct_122 = true := by decide +kernel
noncomputable def ct_123 : Ctr := ([(1, 0, 0)], [], [], [], [((0, 0), (0, (-2147483648), 2147483647), [], [])])
noncomputable def md_123 : MDT := (3, nb_X10_doubleServants, [(1, ([(2, 0, 12), (1, (-2147483648), 2147483647)], [], [], [], false, true, []))])
theorem hc_123 : xctr kd0 sh0 rt0 bd0 un0 PR0 MT0 (ctL [(97, ct_122)]) 8 md_123 ct_123 = true := by decide +kernel
noncomputable def ct_124 : Ctr := ([(1, 0, 0)], [], [], [], [((0, 0), (3, 0, 0), [], [])])
noncomputable def md_124 : MDT := (1, nb_X10_meanSavings, [])
theorem hc_124 : xctr kd0 sh0 rt0 bd0 un0 PR0 MT0 (ctL [(95, ct_118)]) 8 md_124 ct_124 = true := by decide +kernel
noncomputable def ct_125 : Ctr := ([(1, 0, 0)], [], [], [], [((0, 0), (10, 0, 0), [], [])])
noncomputable def md_125 : MDT := (3, nb_X10_employmentRate, [(3, ([(2, 0, 12), (1, (-2147483648), 2147483647)], [], [], [], false, true, []))])
theorem hc_125 : xctr kd0 sh0 rt0 bd0 un0 PR0 MT0 (ctL []) 8 md_125 ct_125 = true := by decide +kernel
noncomputable def ct_126 : Ctr := ([(1, 126, 0), (2, 4, 0)], [], [], [(4, 2, 10), (5, 0, 8), (6, 0, 4), (6, 6, 8), (6, 10, 11), (8, 1, 2), (19, 0, 2), (20, 0, 11)], [((1, 0), (1, 0, 0), [(((.inl 126, (0, 0, 2)) : RK × Aff), 1, 8)], [])])
noncomputable def md_126 : MDT := (2, nb_X4_push, [])
theorem hc_126 : xctr kd0 sh0 rt0 bd0 un0 PR0 MT0 (ctL [(70, ct_46)]) 8 md_126 ct_126 = true := by decide +kernel
noncomputable def ct_127 : Ctr := ([(1, 0, 0), (0, (-2147483648), 2147483647)], [], [], [(4, 2, 10), (5, 0, 8), (6, 0, 4), (6, 6, 8), (6, 10, 11), (8, 1, 2), (9, 5, 5), (19, 0, 2), (20, 0, 11), (23, 0, 11), (24, 0, 11), (25, 0, 7), (26, 0, 95), (27, 0, 107)], [((2, 1), (1, 0, 0), [], []), ((0, 0), (0, (-2147483648), 2147483647), [(((.inl 126, (0, 0, 2)) : RK × Aff), 1, 8)], [])])
noncomputable def md_127 : MDT := (2, nb_X10_passDays, [])
theorem hc_127 : xctr kd0 sh0 rt0 bd0 un0 PR0 MT0 (ctL [(169, ct_103), (27, ct_126)]) 8 md_127 ct_127 = true := by decide +kernel
noncomputable def ct_128 : Ctr := ([(1, 0, 0)], [], [], [(4, 2, 10), (5, 0, 8), (6, 0, 4), (6, 6, 8), (6, 10, 11), (8, 1, 2), (9, 5, 5), (19, 0, 2), (20, 0, 11), (23, 0, 11), (24, 0, 11), (25, 0, 7), (26, 0, 95), (27, 0, 107)], [((0, 0), (0, (-2147483648), 2147483647), [(((.inl 126, (0, 0, 2)) : RK × Aff), 1, 8)], [])])
noncomputable def md_128 : MDT := (1, nb_X10_holdFair, [])
theorem hc_128 : xctr kd0 sh0 rt0 bd0 un0 PR0 MT0 (ctL [(30, ct_95), (27, ct_126)]) 8 md_128 ct_128 = true := by decide +kernel
noncomputable def ct_129 : Ctr := ([(1, 0, 0), (0, (-2147483648), 2147483647), (0, (-2147483648), 2147483647)], [], [], [(4, 2, 10), (5, 0, 8), (6, 0, 4), (6, 6, 8), (6, 10, 11), (8, 1, 2), (19, 0, 2), (20, 0, 11)], [((2, 2), (1, 0, 0), [], []), ((2, 0), (1, 0, 0), [(((.inl 7, (0, 0, 3)) : RK × Aff), 1, 8), (((.inl 7, (0, 0, 2)) : RK × Aff), 1, 12)], []), ((0, 0), (0, (-2147483648), 2147483647), [(((.inl 126, (0, 0, 2)) : RK × Aff), 1, 8)], [])])
noncomputable def md_129 : MDT := (3, nb_X10_test, [])
theorem hc_129 : xctr kd0 sh0 rt0 bd0 un0 PR0 MT0 (ctL [(73, ct_72), (84, ct_108), (27, ct_126)]) 8 md_129 ct_129 = true := by decide +kernel
noncomputable def ct_130 : Ctr := ([(1, 0, 0), (0, (-2147483648), 2147483647)], [], [], [(4, 2, 10), (5, 0, 8), (6, 0, 4), (6, 6, 8), (6, 10, 11), (8, 1, 2), (19, 0, 2), (20, 0, 11)], [((2, 2), (1, 0, 0), [], []), ((2, 0), (1, 0, 0), [(((.inl 7, (0, 0, 2)) : RK × Aff), 1, 12)], []), ((0, 0), (0, 0, 7), [(((.inl 126, (0, 0, 2)) : RK × Aff), 1, 8)], [])])
noncomputable def md_130 : MDT := (3, nb_X10_dismiss, [])
theorem hc_130 : xctr kd0 sh0 rt0 bd0 un0 PR0 MT0 (ctL [(86, ct_100), (27, ct_126)]) 8 md_130 ct_130 = true := by decide +kernel
noncomputable def ct_131 : Ctr := ([(1, 0, 0), (0, (-2147483648), 2147483647), (0, (-2147483648), 2147483647)], [], [], [(4, 2, 10), (5, 0, 8), (6, 0, 4), (6, 6, 8), (6, 10, 11), (8, 1, 2), (19, 0, 2), (20, 0, 11)], [((2, 2), (1, 0, 0), [], []), ((2, 1), (1, 0, 0), [(((.inl 7, (0, 0, 3)) : RK × Aff), 1, 8)], []), ((0, 0), (0, (-2147483648), 2147483647), [(((.inl 126, (0, 0, 2)) : RK × Aff), 1, 8)], [])])
noncomputable def md_131 : MDT := (5, nb_X10_setWage, [])
theorem hc_131 : xctr kd0 sh0 rt0 bd0 un0 PR0 MT0 (ctL [(27, ct_126)]) 8 md_131 ct_131 = true := by decide +kernel
noncomputable def ct_132 : Ctr := ([(1, 0, 0), (0, (-2147483648), 2147483647), (0, (-2147483648), 2147483647)], [], [], [(4, 2, 10), (5, 0, 8), (6, 0, 4), (6, 6, 8), (6, 10, 11), (8, 1, 2), (19, 0, 2), (20, 0, 11)], [((2, 2), (1, 0, 0), [], []), ((2, 1), (1, 0, 0), [(((.inl 7, (0, 0, 3)) : RK × Aff), 1, 8)], []), ((0, 0), (0, (-2147483648), 2147483647), [(((.inl 126, (0, 0, 2)) : RK × Aff), 1, 8)], [])])
noncomputable def md_132 : MDT := (4, nb_X10_fund, [])
theorem hc_132 : xctr kd0 sh0 rt0 bd0 un0 PR0 MT0 (ctL [(27, ct_126)]) 8 md_132 ct_132 = true := by decide +kernel
noncomputable def ct_133 : Ctr := ([(1, 0, 0), (0, (-2147483648), 2147483647)], [], [], [(4, 2, 10), (5, 0, 8), (6, 0, 4), (6, 6, 8), (6, 10, 11), (8, 1, 2), (19, 0, 2), (20, 0, 11)], [((2, 2), (1, 0, 0), [], []), ((2, 0), (1, 0, 0), [(((.inl 7, (0, 0, 2)) : RK × Aff), 1, 12)], []), ((0, 0), (0, (-2147483648), 2147483647), [(((.inl 126, (0, 0, 2)) : RK × Aff), 1, 8)], [])])
noncomputable def md_133 : MDT := (3, nb_X10_train, [])
theorem hc_133 : xctr kd0 sh0 rt0 bd0 un0 PR0 MT0 (ctL [(27, ct_126)]) 8 md_133 ct_133 = true := by decide +kernel
noncomputable def ct_134 : Ctr := ([(1, 126, 0), (2, 4, 0)], [], [], [(4, 2, 10), (5, 0, 8), (6, 0, 4), (6, 6, 8), (6, 10, 11), (8, 1, 2), (19, 0, 2), (20, 0, 11)], [((1, 0), (1, 0, 0), [(((.inl 126, (0, 0, 2)) : RK × Aff), 0, 7)], [])])
noncomputable def md_134 : MDT := (2, nb_X4_pop, [])
theorem hc_134 : xctr kd0 sh0 rt0 bd0 un0 PR0 MT0 (ctL [(70, ct_46)]) 8 md_134 ct_134 = true := by decide +kernel
noncomputable def ct_135 : Ctr := ([(1, 0, 0)], [], [], [(4, 2, 10), (5, 0, 8), (6, 0, 4), (6, 6, 8), (6, 10, 11), (8, 1, 2), (19, 0, 2), (20, 0, 11)], [((2, 0), (1, 0, 0), [(((.inl 126, (0, 0, 2)) : RK × Aff), 0, 0)], []), ((0, 0), (0, 0, 7), [(((.inl 126, (0, 0, 2)) : RK × Aff), 0, 7)], [])])
noncomputable def md_135 : MDT := (1, nb_X10_undo, [])
theorem hc_135 : xctr kd0 sh0 rt0 bd0 un0 PR0 MT0 (ctL [(28, ct_134)]) 8 md_135 ct_135 = true := by decide +kernel
noncomputable def ct_136 : Ctr := ([(1, 0, 0)], [], [], [(0, 7, 7), (4, 2, 10), (5, 0, 8), (6, 0, 4), (6, 6, 8), (6, 10, 11), (19, 0, 2), (20, 0, 11)], [((0, 0), (0, (-2147483648), 2147483647), [(((.inl 0, (0, 0, 7)) : RK × Aff), 1, 1)], [])])
noncomputable def md_136 : MDT := (1, nb_X10_save, [])
theorem hc_136 : xctr kd0 sh0 rt0 bd0 un0 PR0 MT0 (ctL [(70, ct_46)]) 8 md_136 ct_136 = true := by decide +kernel
noncomputable def ct_137 : Ctr := ([(1, 0, 0)], [], [], [(4, 2, 10), (5, 0, 8), (6, 0, 4), (6, 6, 8), (6, 10, 11), (8, 2, 2), (19, 0, 2), (20, 0, 11)], [((2, 0), (1, 0, 0), [], []), ((0, 0), (0, (-2147483648), 2147483647), [(((.inl 126, (0, 0, 2)) : RK × Aff), 0, 0)], [])])
noncomputable def md_137 : MDT := (1, nb_X10_restore, [])
theorem hc_137 : xctr kd0 sh0 rt0 bd0 un0 PR0 MT0 (ctL [(70, ct_46)]) 8 md_137 ct_137 = true := by decide +kernel
noncomputable def ct_138 : Ctr := ([(1, 3, 0), (3, 0, 0)], [], [], [(2, 1, 1), (15, 0, 159)], [((1, 0), (1, 0, 0), [], [])])
noncomputable def md_138 : MDT := (5, nb_X0_addName, [(1, ([(3, (-12), 40)], [], [(2, 1, 1), (15, 0, 159)], [], false, false, []))])
theorem hc_138 : xctr kd0 sh0 rt0 bd0 un0 PR0 MT0 (ctL []) 8 md_138 ct_138 = true := by decide +kernel
noncomputable def ct_139 : Ctr := ([(1, 0, 0), (2, 6, 0)], [], [], [(2, 1, 1), (15, 0, 159)], [((1, 0), (1, 0, 0), [], [])])
noncomputable def md_139 : MDT := (3, nb_X10_writeContracts, [(1, ([(2, 0, 3)], [], [(2, 1, 1), (15, 0, 159)], [], false, true, []))])
theorem hc_139 : xctr kd0 sh0 rt0 bd0 un0 PR0 MT0 (ctL [(3, ct_138)]) 8 md_139 ct_139 = true := by decide +kernel
noncomputable def ct_140 : Ctr := ([(1, 0, 0)], [], [], [(2, 1, 1), (15, 0, 159)], [((0, 0), (0, 0, 160), [], [])])
noncomputable def md_140 : MDT := (2, nb_X10_formatContracts, [(1, ([(1, 0, 8)], [], [(2, 1, 1), (15, 0, 159)], [], false, true, []))])
theorem hc_140 : xctr kd0 sh0 rt0 bd0 un0 PR0 MT0 (ctL [(171, ct_139)]) 8 md_140 ct_140 = true := by decide +kernel
noncomputable def ct_141 : Ctr := ([(1, 0, 0), (0, (-2147483648), 2147483647)], [], [], [], [((0, 0), (0, (-1), (-1)), [], []), ((0, 0), (0, (-128), 127), [], [])])
noncomputable def md_141 : MDT := (2, nb_X10_outputByte, [])
theorem hc_141 : xctr kd0 sh0 rt0 bd0 un0 PR0 MT0 (ctL []) 8 md_141 ct_141 = true := by decide +kernel
noncomputable def ct_142 : Ctr := ([(1, 0, 0), (0, (-2147483648), 2147483647)], [], [], [], [((2, 2), (1, 0, 0), [], []), ((1, 0), (1, 0, 0), [], [])])
noncomputable def md_142 : MDT := (2, nb_X10_requireEcho, [])
theorem hc_142 : xctr kd0 sh0 rt0 bd0 un0 PR0 MT0 (ctL []) 8 md_142 ct_142 = true := by decide +kernel
noncomputable def ct_143 : Ctr := ([(1, 0, 0), (0, (-2147483648), 2147483647)], [], [], [], [((2, 2), (1, 0, 0), [], []), ((1, 0), (1, 0, 0), [], [])])
noncomputable def md_143 : MDT := (2, nb_X10_requireValley, [])
theorem hc_143 : xctr kd0 sh0 rt0 bd0 un0 PR0 MT0 (ctL []) 8 md_143 ct_143 = true := by decide +kernel
end
section
noncomputable def ct_144 : Ctr := ([(1, 0, 0), (0, (-2147483648), 2147483647), (0, (-2147483648), 2147483647)], [], [], [], [((2, 2), (1, 0, 0), [], []), ((1, 0), (1, 0, 0), [], [])])
noncomputable def md_144 : MDT := (3, nb_X10_requirePair, [])
theorem hc_144 : xctr kd0 sh0 rt0 bd0 un0 PR0 MT0 (ctL [(161, ct_142), (162, ct_143)]) 8 md_144 ct_144 = true := by decide +kernel
noncomputable def ct_145 : Ctr := ([(1, 0, 0)], [], [], [(3, 0, 0), (3, 2, 2), (4, 2, 10), (5, 0, 8), (6, 0, 4), (6, 6, 8), (6, 10, 11), (8, 2, 2), (16, 0, 11), (19, 0, 2), (20, 0, 11)], [((1, 0), (1, 0, 0), [(((.inl 126, (0, 0, 2)) : RK × Aff), 0, 0)], [])])
noncomputable def md_145 : MDT := (1, nb_X10_adoptDraft, [])
theorem hc_145 : xctr kd0 sh0 rt0 bd0 un0 PR0 MT0 (ctL [(70, ct_46)]) 8 md_145 ct_145 = true := by decide +kernel
noncomputable def ct_146 : Ctr := ([(1, 0, 0)], [], [], [(0, 13, 14)], [((1, 0), (1, 0, 0), [], [])])
noncomputable def md_146 : MDT := (1, nb_X10_noteErrors, [])
theorem hc_146 : xctr kd0 sh0 rt0 bd0 un0 PR0 MT0 (ctL []) 8 md_146 ct_146 = true := by decide +kernel
end
