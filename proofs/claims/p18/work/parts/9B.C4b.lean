noncomputable def ct_36 : Ctr := ([(2, 6, 0), (3, 0, 0)], [], [], [(6, 0, 4), (6, 6, 8), (6, 10, 11), (20, 0, 11)], [((1, 0), (1, 0, 0), [], [])])
noncomputable def md_36 : MDT := (4, nb_X8_start, [(1, ([(3, 0, 12)], [], [(6, 10, 11), (20, 0, 11)], [], false, true, []))])
theorem hc_36 : xctr kd0 sh0 rt0 bd0 un0 PR0 MT0 (ctL []) 8 md_36 ct_36 = true := by decide +kernel
noncomputable def ct_37 : Ctr := ([(1, 446, 0), (0, 1, 1), (0, 9, 9)], [(((.inl 446, (0, 0, 1)) : RK × Aff), 0, 900)], [], [(10, 1, 7)], [((0, 0), (0, 0, 0), [(((.inl 446, (0, 0, 2)) : RK × Aff), 0, 5), (((.inl 446, (0, 0, 4)) : RK × Aff), (-900), 900), (((.inl 446, (0, 0, 6)) : RK × Aff), 1, 2), (((.inl 446, (0, 0, 7)) : RK × Aff), 0, 900)], []), ((0, 0), (0, 1, 1), [(((.inl 446, (0, 0, 2)) : RK × Aff), 2, 2), (((.inl 446, (0, 0, 4)) : RK × Aff), (-900), 4), (((.inl 446, (0, 0, 5)) : RK × Aff), 1, 9)], [])])
noncomputable def md_37 : MDT := (3, nb_X7_takeNumber, [])
theorem hc_37 : xctr kd0 sh0 rt0 bd0 un0 PR0 MT0 (ctL [(48, ct_2)]) 8 md_37 ct_37 = true := by decide +kernel
noncomputable def ct_38 : Ctr := ([(1, 446, 0), (0, 1, 1), (0, 3, 3)], [(((.inl 446, (0, 0, 1)) : RK × Aff), 0, 900)], [], [(10, 1, 7)], [((0, 0), (0, 0, 0), [(((.inl 446, (0, 0, 2)) : RK × Aff), 0, 5), (((.inl 446, (0, 0, 4)) : RK × Aff), (-900), 900), (((.inl 446, (0, 0, 6)) : RK × Aff), 1, 2), (((.inl 446, (0, 0, 7)) : RK × Aff), 0, 900)], []), ((0, 0), (0, 1, 1), [(((.inl 446, (0, 0, 2)) : RK × Aff), 2, 2), (((.inl 446, (0, 0, 4)) : RK × Aff), (-900), 4), (((.inl 446, (0, 0, 5)) : RK × Aff), 1, 3)], [])])
noncomputable def md_38 : MDT := (3, nb_X7_takeNumber, [])
theorem hc_38 : xctr kd0 sh0 rt0 bd0 un0 PR0 MT0 (ctL [(48, ct_2)]) 8 md_38 ct_38 = true := by decide +kernel
noncomputable def ct_39 : Ctr := ([(1, 446, 0), (0, 1, 1), (0, 99, 99)], [(((.inl 446, (0, 0, 1)) : RK × Aff), 0, 900)], [], [(10, 1, 7)], [((0, 0), (0, 0, 0), [(((.inl 446, (0, 0, 2)) : RK × Aff), 0, 5), (((.inl 446, (0, 0, 4)) : RK × Aff), (-900), 900), (((.inl 446, (0, 0, 6)) : RK × Aff), 1, 2), (((.inl 446, (0, 0, 7)) : RK × Aff), 0, 900)], []), ((0, 0), (0, 1, 1), [(((.inl 446, (0, 0, 2)) : RK × Aff), 2, 2), (((.inl 446, (0, 0, 4)) : RK × Aff), (-900), 4), (((.inl 446, (0, 0, 5)) : RK × Aff), 1, 99)], [])])
noncomputable def md_39 : MDT := (3, nb_X7_takeNumber, [])
theorem hc_39 : xctr kd0 sh0 rt0 bd0 un0 PR0 MT0 (ctL [(48, ct_2)]) 8 md_39 ct_39 = true := by decide +kernel
noncomputable def ct_40 : Ctr := ([(1, 446, 0), (0, 0, 0), (0, 9999, 9999)], [(((.inl 446, (0, 0, 1)) : RK × Aff), 0, 900)], [], [(10, 1, 7)], [((0, 0), (0, 0, 0), [(((.inl 446, (0, 0, 2)) : RK × Aff), 0, 5), (((.inl 446, (0, 0, 4)) : RK × Aff), (-900), 900), (((.inl 446, (0, 0, 6)) : RK × Aff), 1, 2), (((.inl 446, (0, 0, 7)) : RK × Aff), 0, 900)], []), ((0, 0), (0, 1, 1), [(((.inl 446, (0, 0, 2)) : RK × Aff), 2, 2), (((.inl 446, (0, 0, 4)) : RK × Aff), (-900), 4), (((.inl 446, (0, 0, 5)) : RK × Aff), 0, 9999)], [])])
noncomputable def md_40 : MDT := (3, nb_X7_takeNumber, [])
theorem hc_40 : xctr kd0 sh0 rt0 bd0 un0 PR0 MT0 (ctL [(48, ct_2)]) 8 md_40 ct_40 = true := by decide +kernel
noncomputable def ct_41 : Ctr := ([(1, 447, 0)], [(((.inl 446, (0, 0, 1)) : RK × Aff), 0, 900), (((.inl 46, (0, 0, 3)) : RK × Aff), 0, 8)], [], [(4, 3, 3), (4, 7, 7), (6, 0, 4), (6, 6, 8), (6, 10, 11), (10, 1, 7), (20, 0, 11)], [((0, 0), (0, 0, 0), [(((.inl 446, (0, 0, 6)) : RK × Aff), 1, 4), (((.inl 446, (0, 0, 7)) : RK × Aff), 0, 900)], []), ((0, 0), (0, 1, 1), [(((.inl 46, (0, 0, 3)) : RK × Aff), 1, 8), (((.inl 446, (0, 0, 2)) : RK × Aff), 3, 3), (((.inl 446, (0, 0, 4)) : RK × Aff), (-900), 900)], [])])
noncomputable def md_41 : MDT := (2, nb_X2_takeNewValley, [])
theorem hc_41 : xctr kd0 sh0 rt0 bd0 un0 PR0 MT0 (ctL [(52, ct_9), (5, ct_29), (72, ct_30), (54, ct_35), (60, ct_36), (55, ct_37), (55, ct_38), (55, ct_39), (55, ct_40)]) 8 md_41 ct_41 = true := by decide +kernel
noncomputable def ct_42 : Ctr := ([(1, 446, 0), (0, 0, 0), (0, 9, 9)], [(((.inl 446, (0, 0, 1)) : RK × Aff), 0, 900)], [], [(10, 1, 7)], [((0, 0), (0, 0, 0), [(((.inl 446, (0, 0, 2)) : RK × Aff), 0, 5), (((.inl 446, (0, 0, 4)) : RK × Aff), (-900), 900), (((.inl 446, (0, 0, 6)) : RK × Aff), 1, 2), (((.inl 446, (0, 0, 7)) : RK × Aff), 0, 900)], []), ((0, 0), (0, 1, 1), [(((.inl 446, (0, 0, 2)) : RK × Aff), 2, 2), (((.inl 446, (0, 0, 4)) : RK × Aff), (-900), 4), (((.inl 446, (0, 0, 5)) : RK × Aff), 0, 9)], [])])
noncomputable def md_42 : MDT := (3, nb_X7_takeNumber, [])
theorem hc_42 : xctr kd0 sh0 rt0 bd0 un0 PR0 MT0 (ctL [(48, ct_2)]) 8 md_42 ct_42 = true := by decide +kernel
noncomputable def ct_43 : Ctr := ([(1, 447, 0)], [(((.inl 446, (0, 0, 1)) : RK × Aff), 0, 900), (((.inl 46, (0, 0, 2)) : RK × Aff), 0, 12)], [], [(4, 2, 2), (5, 0, 8), (10, 1, 7)], [((0, 0), (0, 0, 0), [(((.inl 446, (0, 0, 6)) : RK × Aff), 1, 4), (((.inl 446, (0, 0, 7)) : RK × Aff), 0, 900)], []), ((0, 0), (0, 1, 1), [(((.inl 46, (0, 0, 2)) : RK × Aff), 1, 12), (((.inl 446, (0, 0, 2)) : RK × Aff), 3, 3), (((.inl 446, (0, 0, 4)) : RK × Aff), (-900), 900)], [])])
noncomputable def md_43 : MDT := (2, nb_X2_takeNewEcho, [])
theorem hc_43 : xctr kd0 sh0 rt0 bd0 un0 PR0 MT0 (ctL [(52, ct_9), (5, ct_29), (71, ct_32), (54, ct_35), (55, ct_37), (55, ct_39), (55, ct_42)]) 8 md_43 ct_43 = true := by decide +kernel
noncomputable def ct_44 : Ctr := ([(1, 447, 0)], [(((.inl 446, (0, 0, 1)) : RK × Aff), 0, 900)], [], [(4, 2, 3), (4, 7, 7), (5, 0, 8), (6, 0, 4), (6, 6, 8), (6, 10, 11), (10, 1, 7), (20, 0, 11)], [((0, 0), (0, 0, 0), [(((.inl 446, (0, 0, 6)) : RK × Aff), 1, 4), (((.inl 446, (0, 0, 7)) : RK × Aff), 0, 900)], []), ((0, 0), (0, 1, 1), [(((.inl 446, (0, 0, 2)) : RK × Aff), 3, 3), (((.inl 446, (0, 0, 4)) : RK × Aff), (-900), 900)], [])])
noncomputable def md_44 : MDT := (1, nb_X2_takeStatement, [])
theorem hc_44 : xctr kd0 sh0 rt0 bd0 un0 PR0 MT0 (ctL [(49, ct_20), (49, ct_24), (49, ct_28), (19, ct_34), (18, ct_41), (17, ct_43)]) 8 md_44 ct_44 = true := by decide +kernel
noncomputable def ct_45 : Ctr := ([(1, 447, 0)], [], [], [(4, 2, 10), (5, 0, 8), (6, 0, 4), (6, 6, 8), (6, 10, 11), (7, 0, 0), (7, 2, 2), (10, 1, 7), (20, 0, 11), (21, 0, 11)], [((0, 0), (0, 0, 0), [(((.inl 46, (0, 0, 4)) : RK × Aff), 0, 0), (((.inl 46, (0, 0, 5)) : RK × Aff), 0, 0), (((.inl 46, (0, 0, 6)) : RK × Aff), 0, 0), (((.inl 46, (0, 0, 8)) : RK × Aff), 0, 0), (((.inl 46, (0, 0, 9)) : RK × Aff), 0, 0), (((.inl 46, (0, 0, 10)) : RK × Aff), 0, 0), (((.inl 446, (0, 0, 6)) : RK × Aff), 1, 4), (((.inl 446, (0, 0, 7)) : RK × Aff), 0, 900)], []), ((0, 0), (0, 1, 1), [(((.inl 46, (0, 0, 4)) : RK × Aff), 0, 0), (((.inl 46, (0, 0, 5)) : RK × Aff), 0, 0), (((.inl 46, (0, 0, 6)) : RK × Aff), 0, 0), (((.inl 46, (0, 0, 8)) : RK × Aff), 0, 0), (((.inl 46, (0, 0, 9)) : RK × Aff), 0, 0), (((.inl 46, (0, 0, 10)) : RK × Aff), 0, 0), (((.inl 85, (0, 0, 0)) : RK × Aff), 1, 30), (((.inl 446, (0, 0, 2)) : RK × Aff), 0, 0), (((.inl 446, (0, 0, 4)) : RK × Aff), (-900), 900), (((.inl 46, (0, 0, 2)) : RK × Aff), 1, 12), (((.inl 46, (0, 0, 3)) : RK × Aff), 1, 8)], [])])
noncomputable def md_45 : MDT := (2, nb_X2_parse, [(4, ([(1, 0, 901)], [(((.inl 446, (0, 0, 2)) : RK × Aff), 3, 3), (((.inl 446, (0, 0, 4)) : RK × Aff), (-900), 900)], [(4, 2, 3), (4, 7, 7), (5, 0, 8), (6, 0, 4), (6, 6, 8), (6, 10, 11), (10, 1, 7), (20, 0, 11)], [], false, true, []))])
theorem hc_45 : xctr kd0 sh0 rt0 bd0 un0 PR0 MT0 (ctL [(48, ct_2), (14, ct_10), (15, ct_16), (16, ct_44)]) 8 md_45 ct_45 = true := by decide +kernel
noncomputable def ct_46 : Ctr := ([(2, 4, 0), (2, 4, 0)], [], [], [(4, 2, 10), (5, 0, 8), (6, 0, 4), (6, 6, 8), (6, 10, 11), (19, 0, 2), (20, 0, 11)], [((1, 0), (1, 0, 0), [], [])])
noncomputable def md_46 : MDT := (3, nb_X9_copyFrom, [(4, ([(2, 0, 8)], [], [(6, 0, 4), (6, 6, 8), (6, 10, 11), (19, 0, 2), (20, 0, 11)], [], false, true, [])), (1, ([(2, 0, 12)], [], [(5, 0, 8), (6, 0, 4), (6, 6, 8), (6, 10, 11), (19, 0, 2), (20, 0, 11)], [], false, true, []))])
theorem hc_46 : xctr kd0 sh0 rt0 bd0 un0 PR0 MT0 (ctL []) 8 md_46 ct_46 = true := by decide +kernel
noncomputable def ct_47 : Ctr := ([(1, 0, 0)], [], [], [(0, 13, 14), (1, 1, 1), (3, 0, 0), (3, 2, 2), (4, 2, 10), (5, 0, 8), (6, 0, 4), (6, 6, 8), (6, 10, 11), (7, 0, 0), (7, 2, 2), (8, 2, 2), (10, 1, 7), (16, 0, 11), (19, 0, 2), (20, 0, 11), (21, 0, 11)], [((2, 1), (1, 0, 0), [(((.inl 46, (0, 0, 4)) : RK × Aff), 0, 0), (((.inl 46, (0, 0, 5)) : RK × Aff), 0, 0), (((.inl 46, (0, 0, 6)) : RK × Aff), 0, 0), (((.inl 46, (0, 0, 8)) : RK × Aff), 0, 0), (((.inl 46, (0, 0, 9)) : RK × Aff), 0, 0), (((.inl 46, (0, 0, 10)) : RK × Aff), 0, 0), (((.inl 446, (0, 0, 6)) : RK × Aff), 1, 4), (((.inl 446, (0, 0, 7)) : RK × Aff), 0, 900), (((.inl 0, (0, 0, 13)) : RK × Aff), 1, 4), (((.inl 0, (0, 0, 14)) : RK × Aff), 0, 900), (((.inl 1, (0, 0, 1)) : RK × Aff), 0, 0)], []), ((0, 0), (0, 0, 12), [(((.inl 85, (0, 0, 0)) : RK × Aff), 1, 30), (((.inl 446, (0, 0, 2)) : RK × Aff), 0, 0), (((.inl 446, (0, 0, 4)) : RK × Aff), (-900), 900), (((.inl 1, (0, 0, 1)) : RK × Aff), 0, 0), (((.inl 5, (0, 0, 0)) : RK × Aff), 1, 30), (((.inl 126, (0, 0, 2)) : RK × Aff), 0, 0)], [])])
noncomputable def md_47 : MDT := (2, nb_X10_load, [])
theorem hc_47 : xctr kd0 sh0 rt0 bd0 un0 PR0 MT0 (ctL [(12, ct_45), (70, ct_46)]) 8 md_47 ct_47 = true := by decide +kernel
noncomputable def ct_48 : Ctr := ([(1, 0, 0)], [], [], [], [((0, 0), (0, (-2147483648), 2147483647), [], [])])
noncomputable def md_48 : MDT := (1, nb_X10_errorCode, [])
theorem hc_48 : xctr kd0 sh0 rt0 bd0 un0 PR0 MT0 (ctL []) 8 md_48 ct_48 = true := by decide +kernel
noncomputable def ct_49 : Ctr := ([(1, 0, 0)], [], [], [], [((0, 0), (0, (-2147483648), 2147483647), [], [])])
noncomputable def md_49 : MDT := (1, nb_X10_errorPosition, [])
theorem hc_49 : xctr kd0 sh0 rt0 bd0 un0 PR0 MT0 (ctL []) 8 md_49 ct_49 = true := by decide +kernel
noncomputable def ct_50 : Ctr := ([(1, 0, 0)], [], [], [], [((0, 0), (0, 0, 12), [], [])])
noncomputable def md_50 : MDT := (1, nb_X10_echoCount, [])
theorem hc_50 : xctr kd0 sh0 rt0 bd0 un0 PR0 MT0 (ctL []) 8 md_50 ct_50 = true := by decide +kernel
noncomputable def ct_51 : Ctr := ([(1, 0, 0)], [], [], [], [((0, 0), (0, 0, 8), [], [])])
noncomputable def md_51 : MDT := (1, nb_X10_valleyCount, [])
theorem hc_51 : xctr kd0 sh0 rt0 bd0 un0 PR0 MT0 (ctL []) 8 md_51 ct_51 = true := by decide +kernel
noncomputable def ct_52 : Ctr := ([(1, 0, 0)], [], [], [], [((0, 0), (0, (-2147483648), 2147483647), [], [])])
noncomputable def md_52 : MDT := (1, nb_X10_day, [])
theorem hc_52 : xctr kd0 sh0 rt0 bd0 un0 PR0 MT0 (ctL []) 8 md_52 ct_52 = true := by decide +kernel
noncomputable def ct_53 : Ctr := ([(1, 0, 0)], [], [], [], [((0, 0), (0, (-2147483648), 2147483647), [], [])])
noncomputable def md_53 : MDT := (1, nb_X10_seasonLength, [])
theorem hc_53 : xctr kd0 sh0 rt0 bd0 un0 PR0 MT0 (ctL []) 8 md_53 ct_53 = true := by decide +kernel
/-- by hand: J9_floorMod_7cf53 -/
noncomputable def ct_54 : Ctr := ([(0, (-2147483648), 2147483647), (0, 1, 12)], [], [], [], [((0, 0), (0, 0, 11), [], [])])
noncomputable def ct_55 : Ctr := ([(1, 0, 0), (0, (-2147483648), 2147483647)], [], [], [], [((2, 1), (1, 0, 0), [], []), ((0, 0), (0, 0, 0), [], []), ((0, 0), (0, (-2147483648), 2147483647), [], [])])
noncomputable def md_55 : MDT := (2, nb_X10_fogOf, [])
theorem hc_55 : xctr kd0 sh0 rt0 bd0 un0 PR0 MT0 (ctL [(335, ct_54)]) 8 md_55 ct_55 = true := by decide +kernel
noncomputable def ct_56 : Ctr := ([(1, 0, 0)], [], [], [], [((0, 0), (0, (-1), 11), [], [])])
noncomputable def md_56 : MDT := (1, nb_X10_findEcho, [])
theorem hc_56 : xctr kd0 sh0 rt0 bd0 un0 PR0 MT0 (ctL [(5, ct_29), (71, ct_32)]) 8 md_56 ct_56 = true := by decide +kernel
noncomputable def ct_57 : Ctr := ([(1, 0, 0)], [], [], [], [((0, 0), (0, (-1), 7), [], [])])
noncomputable def md_57 : MDT := (1, nb_X10_findValley, [])
theorem hc_57 : xctr kd0 sh0 rt0 bd0 un0 PR0 MT0 (ctL [(5, ct_29), (72, ct_30)]) 8 md_57 ct_57 = true := by decide +kernel
noncomputable def ct_58 : Ctr := ([(1, 0, 0), (0, (-2147483648), 2147483647)], [], [], [], [((2, 2), (1, 0, 0), [], []), ((0, 0), (0, (-2147483648), 2147483647), [], [])])
noncomputable def md_58 : MDT := (2, nb_X10_delayOf, [])
theorem hc_58 : xctr kd0 sh0 rt0 bd0 un0 PR0 MT0 (ctL []) 8 md_58 ct_58 = true := by decide +kernel
noncomputable def ct_59 : Ctr := ([(1, 0, 0), (0, (-2147483648), 2147483647)], [], [], [], [((2, 2), (1, 0, 0), [], []), ((0, 0), (0, (-2147483648), 2147483647), [], [])])
noncomputable def md_59 : MDT := (2, nb_X10_repeatsOf, [])
theorem hc_59 : xctr kd0 sh0 rt0 bd0 un0 PR0 MT0 (ctL []) 8 md_59 ct_59 = true := by decide +kernel
noncomputable def ct_60 : Ctr := ([(1, 0, 0), (0, (-2147483648), 2147483647)], [], [], [], [((2, 2), (1, 0, 0), [], []), ((0, 0), (0, (-2147483648), 2147483647), [], [])])
noncomputable def md_60 : MDT := (2, nb_X10_reserveWage, [])
theorem hc_60 : xctr kd0 sh0 rt0 bd0 un0 PR0 MT0 (ctL []) 8 md_60 ct_60 = true := by decide +kernel
noncomputable def ct_61 : Ctr := ([(1, 0, 0), (0, (-2147483648), 2147483647)], [], [], [], [((2, 2), (1, 0, 0), [], []), ((0, 0), (0, (-2147483648), 2147483647), [], [])])
noncomputable def md_61 : MDT := (2, nb_X10_resistanceOf, [])
theorem hc_61 : xctr kd0 sh0 rt0 bd0 un0 PR0 MT0 (ctL []) 8 md_61 ct_61 = true := by decide +kernel
noncomputable def ct_62 : Ctr := ([(1, 0, 0), (0, (-2147483648), 2147483647)], [], [], [], [((2, 2), (1, 0, 0), [], []), ((0, 0), (0, (-2147483648), 2147483647), [], [])])
noncomputable def md_62 : MDT := (2, nb_X10_savingsOf, [])
theorem hc_62 : xctr kd0 sh0 rt0 bd0 un0 PR0 MT0 (ctL []) 8 md_62 ct_62 = true := by decide +kernel
noncomputable def ct_63 : Ctr := ([(1, 0, 0), (0, (-2147483648), 2147483647)], [], [], [], [((2, 2), (1, 0, 0), [], []), ((0, 0), (0, (-2147483648), 2147483647), [], [])])
noncomputable def md_63 : MDT := (2, nb_X10_unpaidDays, [])
theorem hc_63 : xctr kd0 sh0 rt0 bd0 un0 PR0 MT0 (ctL []) 8 md_63 ct_63 = true := by decide +kernel
noncomputable def ct_64 : Ctr := ([(1, 0, 0), (0, (-2147483648), 2147483647)], [], [], [], [((2, 2), (1, 0, 0), [], []), ((0, 0), (0, (-1), 7), [], [])])
noncomputable def md_64 : MDT := (2, nb_X10_employerOf, [])
theorem hc_64 : xctr kd0 sh0 rt0 bd0 un0 PR0 MT0 (ctL []) 8 md_64 ct_64 = true := by decide +kernel
noncomputable def ct_65 : Ctr := ([(1, 0, 0), (0, (-2147483648), 2147483647)], [], [], [], [((2, 2), (1, 0, 0), [], []), ((0, 0), (0, (-2147483648), 2147483647), [], [])])
noncomputable def md_65 : MDT := (2, nb_X10_widthOf, [])
theorem hc_65 : xctr kd0 sh0 rt0 bd0 un0 PR0 MT0 (ctL []) 8 md_65 ct_65 = true := by decide +kernel
noncomputable def ct_66 : Ctr := ([(1, 0, 0), (0, (-2147483648), 2147483647)], [], [], [], [((2, 2), (1, 0, 0), [], []), ((0, 0), (0, (-2147483648), 2147483647), [], [])])
noncomputable def md_66 : MDT := (2, nb_X10_postsOf, [])
theorem hc_66 : xctr kd0 sh0 rt0 bd0 un0 PR0 MT0 (ctL []) 8 md_66 ct_66 = true := by decide +kernel
noncomputable def ct_67 : Ctr := ([(1, 0, 0), (0, (-2147483648), 2147483647)], [], [], [], [((2, 2), (1, 0, 0), [], []), ((0, 0), (0, (-2147483648), 2147483647), [], [])])
noncomputable def md_67 : MDT := (2, nb_X10_wageOf, [])
theorem hc_67 : xctr kd0 sh0 rt0 bd0 un0 PR0 MT0 (ctL []) 8 md_67 ct_67 = true := by decide +kernel
noncomputable def ct_68 : Ctr := ([(1, 0, 0), (0, (-2147483648), 2147483647)], [], [], [], [((2, 2), (1, 0, 0), [], []), ((0, 0), (0, (-2147483648), 2147483647), [], [])])
noncomputable def md_68 : MDT := (2, nb_X10_purseOf, [])
theorem hc_68 : xctr kd0 sh0 rt0 bd0 un0 PR0 MT0 (ctL []) 8 md_68 ct_68 = true := by decide +kernel
noncomputable def ct_69 : Ctr := ([(1, 0, 0), (0, (-2147483648), 2147483647)], [], [], [], [((2, 2), (1, 0, 0), [], []), ((0, 0), (0, 0, 3), [], [])])
noncomputable def md_69 : MDT := (2, nb_X10_staffCount, [])
theorem hc_69 : xctr kd0 sh0 rt0 bd0 un0 PR0 MT0 (ctL []) 8 md_69 ct_69 = true := by decide +kernel
noncomputable def ct_70 : Ctr := ([(1, 0, 0), (0, (-2147483648), 2147483647), (0, (-2147483648), 2147483647)], [], [], [], [((2, 2), (1, 0, 0), [], []), ((0, 0), (0, (-1), (-1)), [], []), ((0, 0), (0, 0, 11), [], [])])
noncomputable def md_70 : MDT := (4, nb_X10_staffMember, [])
theorem hc_70 : xctr kd0 sh0 rt0 bd0 un0 PR0 MT0 (ctL []) 8 md_70 ct_70 = true := by decide +kernel
noncomputable def ct_71 : Ctr := ([(1, 0, 0), (0, (-2147483648), 2147483647), (0, (-2147483648), 2147483647)], [], [], [], [((2, 2), (1, 0, 0), [], []), ((0, 0), (0, 1, 1), [], []), ((0, 0), (0, 0, 0), [], [])])
noncomputable def md_71 : MDT := (3, nb_X10_isTested, [])
theorem hc_71 : xctr kd0 sh0 rt0 bd0 un0 PR0 MT0 (ctL []) 8 md_71 ct_71 = true := by decide +kernel
