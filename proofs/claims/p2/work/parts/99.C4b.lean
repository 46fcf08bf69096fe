noncomputable def ct_33 : Ctr := ([(1, 0, 0)], [], [], [], [((0, 0), (0, (-2147483648), 2147483647), [], [])])
noncomputable def md_33 : MDT := (1, nb_X10_errorPosition, [])
theorem hc_33 : xctr kd0 sh0 rt0 bd0 un0 PR0 MT0 (ctL []) 8 md_33 ct_33 = true := by decide +kernel
noncomputable def ct_34 : Ctr := ([(1, 0, 0)], [], [], [], [((0, 0), (0, 0, 12), [], [])])
noncomputable def md_34 : MDT := (1, nb_X10_echoCount, [])
theorem hc_34 : xctr kd0 sh0 rt0 bd0 un0 PR0 MT0 (ctL []) 8 md_34 ct_34 = true := by decide +kernel
noncomputable def ct_35 : Ctr := ([(1, 0, 0)], [], [], [], [((0, 0), (0, 0, 8), [], [])])
noncomputable def md_35 : MDT := (1, nb_X10_valleyCount, [])
theorem hc_35 : xctr kd0 sh0 rt0 bd0 un0 PR0 MT0 (ctL []) 8 md_35 ct_35 = true := by decide +kernel
noncomputable def ct_36 : Ctr := ([(1, 0, 0)], [], [], [], [((0, 0), (0, (-2147483648), 2147483647), [], [])])
noncomputable def md_36 : MDT := (1, nb_X10_day, [])
theorem hc_36 : xctr kd0 sh0 rt0 bd0 un0 PR0 MT0 (ctL []) 8 md_36 ct_36 = true := by decide +kernel
noncomputable def ct_37 : Ctr := ([(1, 0, 0)], [], [], [], [((0, 0), (0, (-2147483648), 2147483647), [], [])])
noncomputable def md_37 : MDT := (1, nb_X10_seasonLength, [])
theorem hc_37 : xctr kd0 sh0 rt0 bd0 un0 PR0 MT0 (ctL []) 8 md_37 ct_37 = true := by decide +kernel
noncomputable def ct_38 : Ctr := ([(1, 0, 0), (0, (-2147483648), 2147483647)], [], [], [], [((2, 1), (1, 0, 0), [], []), ((0, 0), (0, 0, 0), [], []), ((0, 0), (0, (-2147483648), 2147483647), [], [])])
noncomputable def md_38 : MDT := (2, nb_X10_fogOf, [])
noncomputable def ct_39 : Ctr := ([(1, 0, 0)], [], [], [], [((0, 0), (0, (-1), 11), [], [])])
noncomputable def md_39 : MDT := (1, nb_X10_findEcho, [])
theorem hc_39 : xctr kd0 sh0 rt0 bd0 un0 PR0 MT0 (ctL [(5, ct_14), (71, ct_17)]) 8 md_39 ct_39 = true := by decide +kernel
noncomputable def ct_40 : Ctr := ([(1, 0, 0)], [], [], [], [((0, 0), (0, (-1), 7), [], [])])
noncomputable def md_40 : MDT := (1, nb_X10_findValley, [])
theorem hc_40 : xctr kd0 sh0 rt0 bd0 un0 PR0 MT0 (ctL [(5, ct_14), (72, ct_15)]) 8 md_40 ct_40 = true := by decide +kernel
noncomputable def ct_41 : Ctr := ([(1, 0, 0), (0, (-2147483648), 2147483647)], [], [], [], [((2, 2), (1, 0, 0), [], []), ((0, 0), (0, (-2147483648), 2147483647), [], [])])
noncomputable def md_41 : MDT := (2, nb_X10_delayOf, [])
theorem hc_41 : xctr kd0 sh0 rt0 bd0 un0 PR0 MT0 (ctL []) 8 md_41 ct_41 = true := by decide +kernel
noncomputable def ct_42 : Ctr := ([(1, 0, 0), (0, (-2147483648), 2147483647)], [], [], [], [((2, 2), (1, 0, 0), [], []), ((0, 0), (0, (-2147483648), 2147483647), [], [])])
noncomputable def md_42 : MDT := (2, nb_X10_repeatsOf, [])
theorem hc_42 : xctr kd0 sh0 rt0 bd0 un0 PR0 MT0 (ctL []) 8 md_42 ct_42 = true := by decide +kernel
noncomputable def ct_43 : Ctr := ([(1, 0, 0), (0, (-2147483648), 2147483647)], [], [], [], [((2, 2), (1, 0, 0), [], []), ((0, 0), (0, (-2147483648), 2147483647), [], [])])
noncomputable def md_43 : MDT := (2, nb_X10_reserveWage, [])
theorem hc_43 : xctr kd0 sh0 rt0 bd0 un0 PR0 MT0 (ctL []) 8 md_43 ct_43 = true := by decide +kernel
noncomputable def ct_44 : Ctr := ([(1, 0, 0), (0, (-2147483648), 2147483647)], [], [], [], [((2, 2), (1, 0, 0), [], []), ((0, 0), (0, (-2147483648), 2147483647), [], [])])
noncomputable def md_44 : MDT := (2, nb_X10_resistanceOf, [])
theorem hc_44 : xctr kd0 sh0 rt0 bd0 un0 PR0 MT0 (ctL []) 8 md_44 ct_44 = true := by decide +kernel
noncomputable def ct_45 : Ctr := ([(1, 0, 0), (0, (-2147483648), 2147483647)], [], [], [], [((2, 2), (1, 0, 0), [], []), ((0, 0), (0, (-2147483648), 2147483647), [], [])])
noncomputable def md_45 : MDT := (2, nb_X10_savingsOf, [])
theorem hc_45 : xctr kd0 sh0 rt0 bd0 un0 PR0 MT0 (ctL []) 8 md_45 ct_45 = true := by decide +kernel
noncomputable def ct_46 : Ctr := ([(1, 0, 0), (0, (-2147483648), 2147483647)], [], [], [], [((2, 2), (1, 0, 0), [], []), ((0, 0), (0, (-2147483648), 2147483647), [], [])])
noncomputable def md_46 : MDT := (2, nb_X10_unpaidDays, [])
theorem hc_46 : xctr kd0 sh0 rt0 bd0 un0 PR0 MT0 (ctL []) 8 md_46 ct_46 = true := by decide +kernel
noncomputable def ct_47 : Ctr := ([(1, 0, 0), (0, (-2147483648), 2147483647)], [], [], [], [((2, 2), (1, 0, 0), [], []), ((0, 0), (0, (-1), 7), [], [])])
noncomputable def md_47 : MDT := (2, nb_X10_employerOf, [])
theorem hc_47 : xctr kd0 sh0 rt0 bd0 un0 PR0 MT0 (ctL []) 8 md_47 ct_47 = true := by decide +kernel
noncomputable def ct_48 : Ctr := ([(1, 0, 0), (0, (-2147483648), 2147483647)], [], [], [], [((2, 2), (1, 0, 0), [], []), ((0, 0), (0, (-2147483648), 2147483647), [], [])])
noncomputable def md_48 : MDT := (2, nb_X10_widthOf, [])
theorem hc_48 : xctr kd0 sh0 rt0 bd0 un0 PR0 MT0 (ctL []) 8 md_48 ct_48 = true := by decide +kernel
noncomputable def ct_49 : Ctr := ([(1, 0, 0), (0, (-2147483648), 2147483647)], [], [], [], [((2, 2), (1, 0, 0), [], []), ((0, 0), (0, (-2147483648), 2147483647), [], [])])
noncomputable def md_49 : MDT := (2, nb_X10_postsOf, [])
theorem hc_49 : xctr kd0 sh0 rt0 bd0 un0 PR0 MT0 (ctL []) 8 md_49 ct_49 = true := by decide +kernel
noncomputable def ct_50 : Ctr := ([(1, 0, 0), (0, (-2147483648), 2147483647)], [], [], [], [((2, 2), (1, 0, 0), [], []), ((0, 0), (0, (-2147483648), 2147483647), [], [])])
noncomputable def md_50 : MDT := (2, nb_X10_wageOf, [])
theorem hc_50 : xctr kd0 sh0 rt0 bd0 un0 PR0 MT0 (ctL []) 8 md_50 ct_50 = true := by decide +kernel
noncomputable def ct_51 : Ctr := ([(1, 0, 0), (0, (-2147483648), 2147483647)], [], [], [], [((2, 2), (1, 0, 0), [], []), ((0, 0), (0, (-2147483648), 2147483647), [], [])])
noncomputable def md_51 : MDT := (2, nb_X10_purseOf, [])
theorem hc_51 : xctr kd0 sh0 rt0 bd0 un0 PR0 MT0 (ctL []) 8 md_51 ct_51 = true := by decide +kernel
noncomputable def ct_52 : Ctr := ([(1, 0, 0), (0, (-2147483648), 2147483647)], [], [], [], [((2, 2), (1, 0, 0), [], []), ((0, 0), (0, 0, 3), [], [])])
noncomputable def md_52 : MDT := (2, nb_X10_staffCount, [])
theorem hc_52 : xctr kd0 sh0 rt0 bd0 un0 PR0 MT0 (ctL []) 8 md_52 ct_52 = true := by decide +kernel
noncomputable def ct_53 : Ctr := ([(1, 0, 0), (0, (-2147483648), 2147483647), (0, (-2147483648), 2147483647)], [], [], [], [((2, 2), (1, 0, 0), [], []), ((0, 0), (0, (-1), (-1)), [], []), ((0, 0), (0, 0, 11), [], [])])
noncomputable def md_53 : MDT := (4, nb_X10_staffMember, [])
theorem hc_53 : xctr kd0 sh0 rt0 bd0 un0 PR0 MT0 (ctL []) 8 md_53 ct_53 = true := by decide +kernel
noncomputable def ct_54 : Ctr := ([(1, 0, 0), (0, (-2147483648), 2147483647), (0, (-2147483648), 2147483647)], [], [], [], [((2, 2), (1, 0, 0), [], []), ((0, 0), (0, 1, 1), [], []), ((0, 0), (0, 0, 0), [], [])])
noncomputable def md_54 : MDT := (3, nb_X10_isTested, [])
theorem hc_54 : xctr kd0 sh0 rt0 bd0 un0 PR0 MT0 (ctL []) 8 md_54 ct_54 = true := by decide +kernel
noncomputable def ct_55 : Ctr := ([(2, 4, 0), (0, 0, 7), (0, 0, 11)], [], [], [], [((0, 0), (0, (-2147483648), 2147483647), [], [])])
noncomputable def md_55 : MDT := (4, nb_X9_trueScore, [])
theorem hc_55 : xctr kd0 sh0 rt0 bd0 un0 PR0 MT0 (ctL []) 8 md_55 ct_55 = true := by decide +kernel
noncomputable def ct_56 : Ctr := ([(2, 4, 0), (0, 0, 7), (0, 0, 11)], [], [], [], [((0, 0), (0, (-2147483648), 2147483647), [], [])])
noncomputable def md_56 : MDT := (3, nb_X9_scoreSeen, [])
theorem hc_56 : xctr kd0 sh0 rt0 bd0 un0 PR0 MT0 (ctL [(73, ct_55)]) 8 md_56 ct_56 = true := by decide +kernel
noncomputable def ct_57 : Ctr := ([(1, 0, 0), (0, (-2147483648), 2147483647), (0, (-2147483648), 2147483647)], [], [], [], [((2, 2), (1, 0, 0), [], []), ((0, 0), (0, (-2147483648), 2147483647), [], [])])
noncomputable def md_57 : MDT := (3, nb_X10_seenScore, [])
theorem hc_57 : xctr kd0 sh0 rt0 bd0 un0 PR0 MT0 (ctL [(74, ct_56)]) 8 md_57 ct_57 = true := by decide +kernel
noncomputable def ct_58 : Ctr := ([(1, 0, 0), (0, (-2147483648), 2147483647), (0, (-2147483648), 2147483647)], [], [], [], [((2, 2), (1, 0, 0), [], []), ((0, 0), (0, 1, 1), [], []), ((0, 0), (0, 2, 2), [], []), ((0, 0), (0, 3, 3), [], []), ((0, 0), (0, 0, 0), [], [])])
noncomputable def md_58 : MDT := (3, nb_X10_pairReason, [])
theorem hc_58 : xctr kd0 sh0 rt0 bd0 un0 PR0 MT0 (ctL [(74, ct_56)]) 8 md_58 ct_58 = true := by decide +kernel
noncomputable def ct_59 : Ctr := ([(2, 4, 0), (0, 0, 7), (0, 0, 11)], [], [], [], [((0, 0), (0, 0, 1), [], [])])
noncomputable def md_59 : MDT := (3, nb_X9_isAcceptable, [])
theorem hc_59 : xctr kd0 sh0 rt0 bd0 un0 PR0 MT0 (ctL [(74, ct_56)]) 8 md_59 ct_59 = true := by decide +kernel
noncomputable def ct_60 : Ctr := ([(2, 4, 0), (0, 0, 7), (0, 0, 7)], [], [], [], [((0, 0), (0, 0, 1), [], [])])
noncomputable def md_60 : MDT := (5, nb_X9_paysBetter, [])
theorem hc_60 : xctr kd0 sh0 rt0 bd0 un0 PR0 MT0 (ctL []) 8 md_60 ct_60 = true := by decide +kernel
noncomputable def ct_61 : Ctr := ([(2, 4, 0), (0, 0, 7), (0, 0, 11)], [], [], [], [((0, 0), (0, (-2147483648), 2147483647), [], [])])
noncomputable def md_61 : MDT := (5, nb_X9_rankOfValley, [(1, ([(4, 0, 8), (3, (-2147483648), 2147483647)], [], [], [], false, true, []))])
theorem hc_61 : xctr kd0 sh0 rt0 bd0 un0 PR0 MT0 (ctL [(76, ct_59), (77, ct_60)]) 8 md_61 ct_61 = true := by decide +kernel
noncomputable def ct_62 : Ctr := ([(1, 0, 0), (0, (-2147483648), 2147483647), (0, (-2147483648), 2147483647)], [], [], [], [((2, 2), (1, 0, 0), [], []), ((0, 0), (0, 0, 7), [], []), ((0, 0), (0, (-1), (-1)), [], [])])
noncomputable def md_62 : MDT := (4, nb_X10_preferredValley, [(1, ([(3, 0, 8)], [], [], [], false, true, []))])
theorem hc_62 : xctr kd0 sh0 rt0 bd0 un0 PR0 MT0 (ctL [(76, ct_59), (79, ct_61)]) 8 md_62 ct_62 = true := by decide +kernel
noncomputable def ct_63 : Ctr := ([(2, 4, 0), (0, 0, 7), (0, 0, 11), (0, 0, 11)], [], [], [], [((0, 0), (0, 0, 1), [], [])])
noncomputable def md_63 : MDT := (6, nb_X9_prefersEcho, [])
theorem hc_63 : xctr kd0 sh0 rt0 bd0 un0 PR0 MT0 (ctL [(74, ct_56)]) 8 md_63 ct_63 = true := by decide +kernel
noncomputable def ct_64 : Ctr := ([(2, 4, 0), (0, 0, 7), (0, 0, 11)], [], [], [], [((0, 0), (0, (-2147483648), 2147483647), [], [])])
noncomputable def md_64 : MDT := (5, nb_X9_rankOfEcho, [(1, ([(4, 0, 12), (3, (-2147483648), 2147483647)], [], [], [], false, true, []))])
theorem hc_64 : xctr kd0 sh0 rt0 bd0 un0 PR0 MT0 (ctL [(76, ct_59), (78, ct_63)]) 8 md_64 ct_64 = true := by decide +kernel
