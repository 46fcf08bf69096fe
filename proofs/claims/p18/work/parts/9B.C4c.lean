noncomputable def ct_72 : Ctr := ([(2, 4, 0), (0, 0, 7), (0, 0, 11)], [], [], [], [((0, 0), (0, (-2147483648), 2147483647), [], [])])
noncomputable def md_72 : MDT := (4, nb_X9_trueScore, [])
theorem hc_72 : xctr kd0 sh0 rt0 bd0 un0 PR0 MT0 (ctL []) 8 md_72 ct_72 = true := by decide +kernel
noncomputable def ct_73 : Ctr := ([(2, 4, 0), (0, 0, 7), (0, 0, 11)], [], [], [], [((0, 0), (0, (-2147483648), 2147483647), [], [])])
noncomputable def md_73 : MDT := (3, nb_X9_scoreSeen, [])
theorem hc_73 : xctr kd0 sh0 rt0 bd0 un0 PR0 MT0 (ctL [(73, ct_72)]) 8 md_73 ct_73 = true := by decide +kernel
noncomputable def ct_74 : Ctr := ([(1, 0, 0), (0, (-2147483648), 2147483647), (0, (-2147483648), 2147483647)], [], [], [], [((2, 2), (1, 0, 0), [], []), ((0, 0), (0, (-2147483648), 2147483647), [], [])])
noncomputable def md_74 : MDT := (3, nb_X10_seenScore, [])
theorem hc_74 : xctr kd0 sh0 rt0 bd0 un0 PR0 MT0 (ctL [(74, ct_73)]) 8 md_74 ct_74 = true := by decide +kernel
noncomputable def ct_75 : Ctr := ([(1, 0, 0), (0, (-2147483648), 2147483647), (0, (-2147483648), 2147483647)], [], [], [], [((2, 2), (1, 0, 0), [], []), ((0, 0), (0, 1, 1), [], []), ((0, 0), (0, 2, 2), [], []), ((0, 0), (0, 3, 3), [], []), ((0, 0), (0, 0, 0), [], [])])
noncomputable def md_75 : MDT := (3, nb_X10_pairReason, [])
theorem hc_75 : xctr kd0 sh0 rt0 bd0 un0 PR0 MT0 (ctL [(74, ct_73)]) 8 md_75 ct_75 = true := by decide +kernel
noncomputable def ct_76 : Ctr := ([(2, 4, 0), (0, 0, 7), (0, 0, 11)], [], [], [], [((0, 0), (0, 0, 1), [], [])])
noncomputable def md_76 : MDT := (3, nb_X9_isAcceptable, [])
theorem hc_76 : xctr kd0 sh0 rt0 bd0 un0 PR0 MT0 (ctL [(74, ct_73)]) 8 md_76 ct_76 = true := by decide +kernel
noncomputable def ct_77 : Ctr := ([(2, 4, 0), (0, 0, 7), (0, 0, 7)], [], [], [], [((0, 0), (0, 0, 1), [], [])])
noncomputable def md_77 : MDT := (5, nb_X9_paysBetter, [])
theorem hc_77 : xctr kd0 sh0 rt0 bd0 un0 PR0 MT0 (ctL []) 8 md_77 ct_77 = true := by decide +kernel
noncomputable def ct_78 : Ctr := ([(2, 4, 0), (0, 0, 7), (0, 0, 11)], [], [], [], [((0, 0), (0, (-2147483648), 2147483647), [], [])])
noncomputable def md_78 : MDT := (5, nb_X9_rankOfValley, [(1, ([(4, 0, 8), (3, (-2147483648), 2147483647)], [], [], [], false, true, []))])
theorem hc_78 : xctr kd0 sh0 rt0 bd0 un0 PR0 MT0 (ctL [(76, ct_76), (77, ct_77)]) 8 md_78 ct_78 = true := by decide +kernel
noncomputable def ct_79 : Ctr := ([(1, 0, 0), (0, (-2147483648), 2147483647), (0, (-2147483648), 2147483647)], [], [], [], [((2, 2), (1, 0, 0), [], []), ((0, 0), (0, 0, 7), [], []), ((0, 0), (0, (-1), (-1)), [], [])])
noncomputable def md_79 : MDT := (4, nb_X10_preferredValley, [(1, ([(3, 0, 8)], [], [], [], false, true, []))])
theorem hc_79 : xctr kd0 sh0 rt0 bd0 un0 PR0 MT0 (ctL [(76, ct_76), (79, ct_78)]) 8 md_79 ct_79 = true := by decide +kernel
noncomputable def ct_80 : Ctr := ([(2, 4, 0), (0, 0, 7), (0, 0, 11), (0, 0, 11)], [], [], [], [((0, 0), (0, 0, 1), [], [])])
noncomputable def md_80 : MDT := (6, nb_X9_prefersEcho, [])
theorem hc_80 : xctr kd0 sh0 rt0 bd0 un0 PR0 MT0 (ctL [(74, ct_73)]) 8 md_80 ct_80 = true := by decide +kernel
noncomputable def ct_81 : Ctr := ([(2, 4, 0), (0, 0, 7), (0, 0, 11)], [], [], [], [((0, 0), (0, (-2147483648), 2147483647), [], [])])
noncomputable def md_81 : MDT := (5, nb_X9_rankOfEcho, [(1, ([(4, 0, 12), (3, (-2147483648), 2147483647)], [], [], [], false, true, []))])
theorem hc_81 : xctr kd0 sh0 rt0 bd0 un0 PR0 MT0 (ctL [(76, ct_76), (78, ct_80)]) 8 md_81 ct_81 = true := by decide +kernel
noncomputable def ct_82 : Ctr := ([(1, 0, 0), (0, (-2147483648), 2147483647), (0, (-2147483648), 2147483647)], [], [], [], [((2, 2), (1, 0, 0), [], []), ((0, 0), (0, 0, 11), [], []), ((0, 0), (0, (-1), (-1)), [], [])])
noncomputable def md_82 : MDT := (4, nb_X10_preferredEcho, [(1, ([(3, 0, 12)], [], [], [], false, true, []))])
theorem hc_82 : xctr kd0 sh0 rt0 bd0 un0 PR0 MT0 (ctL [(76, ct_76), (80, ct_81)]) 8 md_82 ct_82 = true := by decide +kernel
noncomputable def ct_83 : Ctr := ([(2, 4, 0), (0, 0, 7), (0, 0, 11)], [], [], [], [((0, 0), (0, 0, 1), [], [])])
noncomputable def md_83 : MDT := (4, nb_X9_wouldMove, [])
theorem hc_83 : xctr kd0 sh0 rt0 bd0 un0 PR0 MT0 (ctL [(76, ct_76), (77, ct_77)]) 8 md_83 ct_83 = true := by decide +kernel
noncomputable def ct_84 : Ctr := ([(2, 4, 0), (0, 0, 7), (0, 0, 11)], [], [], [], [((0, 0), (0, 0, 1), [], [])])
noncomputable def md_84 : MDT := (5, nb_X9_wouldTake, [(3, ([(4, 0, 3)], [], [], [], false, true, []))])
theorem hc_84 : xctr kd0 sh0 rt0 bd0 un0 PR0 MT0 (ctL [(78, ct_80)]) 8 md_84 ct_84 = true := by decide +kernel
noncomputable def ct_85 : Ctr := ([(2, 4, 0), (0, 0, 7), (0, 0, 11)], [], [], [], [((0, 0), (0, 0, 1), [], [])])
noncomputable def md_85 : MDT := (3, nb_X9_isBlocking, [])
theorem hc_85 : xctr kd0 sh0 rt0 bd0 un0 PR0 MT0 (ctL [(76, ct_76), (82, ct_83), (83, ct_84)]) 8 md_85 ct_85 = true := by decide +kernel
noncomputable def ct_86 : Ctr := ([(1, 0, 0)], [], [], [], [((0, 0), (0, (-2147483648), 2147483647), [], [])])
noncomputable def md_86 : MDT := (4, nb_X10_blockingPairs, [(3, ([(3, 0, 12), (1, (-2147483648), 2147483647)], [], [], [], false, true, [])), (1, ([(2, 0, 8), (1, (-2147483648), 2147483647)], [], [], [], false, true, []))])
theorem hc_86 : xctr kd0 sh0 rt0 bd0 un0 PR0 MT0 (ctL [(81, ct_85)]) 8 md_86 ct_86 = true := by decide +kernel
noncomputable def ct_87 : Ctr := ([(1, 440, 0), (2, 4, 0)], [], [], [(9, 5, 5), (23, 0, 11), (24, 0, 11), (25, 0, 7), (27, 0, 107)], [((1, 0), (1, 0, 0), [], [])])
noncomputable def md_87 : MDT := (3, nb_X5_enrol, [(4, ([(2, 0, 12)], [(((.inl 440, (0, 0, 5)) : RK × Aff), 0, 108)], [(9, 5, 5), (23, 0, 11), (24, 0, 11), (27, 0, 107)], [], false, true, [])), (1, ([(2, 0, 8)], [(((.inl 440, (0, 0, 5)) : RK × Aff), 0, 0)], [(9, 5, 5), (23, 0, 11), (24, 0, 11), (25, 0, 7), (27, 0, 107)], [], false, true, []))])
theorem hc_87 : xctr kd0 sh0 rt0 bd0 un0 PR0 MT0 (ctL []) 8 md_87 ct_87 = true := by decide +kernel
noncomputable def ct_88 : Ctr := ([(1, 440, 0), (2, 4, 0)], [], [], [(23, 0, 11), (26, 0, 95)], [((1, 0), (1, 0, 0), [], [])])
noncomputable def md_88 : MDT := (5, nb_X5_weigh, [(3, ([(3, 0, 12)], [], [(23, 0, 11), (26, 0, 95)], [], false, true, [])), (1, ([(2, 0, 8)], [], [(23, 0, 11), (26, 0, 95)], [], false, true, []))])
theorem hc_88 : xctr kd0 sh0 rt0 bd0 un0 PR0 MT0 (ctL [(74, ct_73)]) 8 md_88 ct_88 = true := by decide +kernel
noncomputable def ct_89 : Ctr := ([(1, 440, 0), (2, 4, 0), (0, 0, 11)], [], [], [], [((0, 0), (0, (-1), 7), [], [])])
noncomputable def md_89 : MDT := (6, nb_X5_favourite, [(1, ([(4, 0, 8), (3, (-1), 7)], [], [], [], false, true, []))])
theorem hc_89 : xctr kd0 sh0 rt0 bd0 un0 PR0 MT0 (ctL [(77, ct_77)]) 8 md_89 ct_89 = true := by decide +kernel
noncomputable def ct_90 : Ctr := ([(1, 440, 0), (0, 0, 7), (0, 0, 11), (0, 0, 11)], [], [], [], [((0, 0), (0, 0, 1), [], [])])
noncomputable def md_90 : MDT := (6, nb_X5_prefers, [])
theorem hc_90 : xctr kd0 sh0 rt0 bd0 un0 PR0 MT0 (ctL []) 8 md_90 ct_90 = true := by decide +kernel
noncomputable def ct_91 : Ctr := ([(1, 440, 0), (2, 4, 0), (0, 0, 7)], [], [], [], [((0, 0), (0, (-1), 11), [], [])])
noncomputable def md_91 : MDT := (5, nb_X5_leastKept, [(1, ([(4, 0, 12), (3, (-1), 11)], [], [], [], false, true, []))])
theorem hc_91 : xctr kd0 sh0 rt0 bd0 un0 PR0 MT0 (ctL [(37, ct_90)]) 8 md_91 ct_91 = true := by decide +kernel
noncomputable def ct_92 : Ctr := ([(1, 440, 0), (2, 4, 0), (0, 0, 7), (0, 0, 11)], [], [], [(9, 5, 5), (24, 0, 11), (25, 0, 7), (27, 0, 107)], [((1, 0), (1, 0, 0), [], [])])
noncomputable def md_92 : MDT := (5, nb_X5_apply, [])
theorem hc_92 : xctr kd0 sh0 rt0 bd0 un0 PR0 MT0 (ctL [(37, ct_90), (36, ct_91)]) 8 md_92 ct_92 = true := by decide +kernel
noncomputable def ct_93 : Ctr := ([(2, 4, 0), (0, 0, 7), (0, 0, 11)], [], [], [(4, 5, 5), (5, 7, 7), (6, 6, 6), (19, 0, 2)], [((1, 0), (1, 0, 0), [], [])])
noncomputable def md_93 : MDT := (3, nb_X9_employ, [])
theorem hc_93 : xctr kd0 sh0 rt0 bd0 un0 PR0 MT0 (ctL []) 8 md_93 ct_93 = true := by decide +kernel
noncomputable def ct_94 : Ctr := ([(1, 440, 0), (2, 4, 0)], [], [], [(4, 5, 5), (5, 7, 7), (6, 6, 6), (19, 0, 2)], [((0, 0), (0, (-2147483648), 2147483647), [], [])])
noncomputable def md_94 : MDT := (5, nb_X5_sign, [(3, ([(4, 0, 12), (2, (-2147483648), 2147483647)], [], [(4, 5, 5), (5, 7, 7), (6, 6, 6), (19, 0, 2)], [], false, true, [])), (1, ([(3, 0, 8), (2, (-2147483648), 2147483647)], [], [(4, 5, 5), (5, 7, 7), (6, 6, 6), (19, 0, 2)], [], false, true, []))])
theorem hc_94 : xctr kd0 sh0 rt0 bd0 un0 PR0 MT0 (ctL [(85, ct_93)]) 8 md_94 ct_94 = true := by decide +kernel
noncomputable def ct_95 : Ctr := ([(1, 440, 0), (2, 4, 0)], [], [], [(4, 5, 5), (5, 7, 7), (6, 6, 6), (9, 5, 5), (19, 0, 2), (23, 0, 11), (24, 0, 11), (25, 0, 7), (26, 0, 95), (27, 0, 107)], [((0, 0), (0, (-2147483648), 2147483647), [], [])])
noncomputable def md_95 : MDT := (5, nb_X5_hold, [(1, ([(2, 0, 108)], [], [(4, 5, 5), (5, 7, 7), (6, 6, 6), (9, 5, 5), (19, 0, 2), (23, 0, 11), (24, 0, 11), (25, 0, 7), (27, 0, 107)], [], false, true, []))])
theorem hc_95 : xctr kd0 sh0 rt0 bd0 un0 PR0 MT0 (ctL [(31, ct_87), (32, ct_88), (34, ct_89), (35, ct_92), (38, ct_94)]) 8 md_95 ct_95 = true := by decide +kernel
noncomputable def ct_96 : Ctr := ([(1, 0, 0), (0, (-2147483648), 2147483647)], [], [], [(4, 2, 10), (5, 0, 8), (6, 0, 4), (6, 6, 8), (6, 10, 11), (9, 5, 5), (19, 0, 2), (20, 0, 11), (23, 0, 11), (24, 0, 11), (25, 0, 7), (26, 0, 95), (27, 0, 107)], [((2, 2), (1, 0, 0), [], []), ((0, 0), (0, (-1), 7), [], [])])
noncomputable def md_96 : MDT := (2, nb_X10_fairResult, [])
theorem hc_96 : xctr kd0 sh0 rt0 bd0 un0 PR0 MT0 (ctL [(70, ct_46), (30, ct_95)]) 8 md_96 ct_96 = true := by decide +kernel
noncomputable def ct_97 : Ctr := ([(2, 4, 0), (2, 6, 0)], [], [], [(4, 8, 8), (6, 4, 4), (6, 10, 10), (20, 0, 11)], [((1, 0), (1, 0, 0), [], [])])
noncomputable def md_97 : MDT := (5, nb_X9_hearReplies, [(1, ([(3, 0, 3), (2, (-2147483648), 2147483647)], [], [(4, 8, 8), (6, 4, 4), (6, 10, 10), (20, 0, 11)], [], false, true, []))])
theorem hc_97 : xctr kd0 sh0 rt0 bd0 un0 PR0 MT0 (ctL []) 8 md_97 ct_97 = true := by decide +kernel
noncomputable def ct_98 : Ctr := ([(2, 4, 0), (2, 6, 0)], [], [], [(5, 5, 6), (6, 4, 4), (6, 11, 11)], [((1, 0), (1, 0, 0), [], [])])
noncomputable def md_98 : MDT := (5, nb_X9_payStaff, [(1, ([(2, 0, 3)], [], [(5, 5, 6), (6, 4, 4), (6, 11, 11)], [], false, true, []))])
theorem hc_98 : xctr kd0 sh0 rt0 bd0 un0 PR0 MT0 (ctL []) 8 md_98 ct_98 = true := by decide +kernel
noncomputable def ct_99 : Ctr := ([(2, 4, 0)], [], [], [(4, 8, 8), (5, 5, 6), (6, 4, 4), (6, 10, 11), (20, 0, 11)], [((1, 0), (1, 0, 0), [], [])])
noncomputable def md_99 : MDT := (2, nb_X9_work, [(1, ([(1, 0, 8)], [], [(4, 8, 8), (5, 5, 6), (6, 4, 4), (6, 10, 11), (20, 0, 11)], [], false, true, []))])
theorem hc_99 : xctr kd0 sh0 rt0 bd0 un0 PR0 MT0 (ctL [(89, ct_97), (90, ct_98)]) 8 md_99 ct_99 = true := by decide +kernel
noncomputable def ct_100 : Ctr := ([(2, 4, 0), (0, 0, 11)], [], [], [(4, 6, 6), (5, 6, 7), (6, 6, 6), (19, 0, 2)], [((1, 0), (1, 0, 0), [], [])])
noncomputable def md_100 : MDT := (3, nb_X9_endContract, [])
theorem hc_100 : xctr kd0 sh0 rt0 bd0 un0 PR0 MT0 (ctL []) 8 md_100 ct_100 = true := by decide +kernel
noncomputable def ct_101 : Ctr := ([(2, 4, 0), (0, (-2147483648), 2147483647)], [], [], [(4, 6, 6), (5, 6, 8), (6, 6, 6), (6, 8, 8), (19, 0, 2)], [((0, 0), (0, (-2147483648), 2147483647), [], [])])
noncomputable def md_101 : MDT := (5, nb_X9_desert, [(1, ([(3, 0, 12), (2, (-2147483648), 2147483647)], [], [(4, 6, 6), (5, 6, 8), (6, 6, 6), (6, 8, 8), (19, 0, 2)], [], false, true, []))])
theorem hc_101 : xctr kd0 sh0 rt0 bd0 un0 PR0 MT0 (ctL [(86, ct_100)]) 8 md_101 ct_101 = true := by decide +kernel
noncomputable def ct_102 : Ctr := ([(2, 4, 0)], [], [], [(4, 6, 6), (5, 6, 7), (6, 6, 6), (6, 8, 8), (19, 0, 2)], [((1, 0), (1, 0, 0), [], [])])
noncomputable def md_102 : MDT := (2, nb_X9_endSeason, [(4, ([(1, 0, 8)], [], [(6, 8, 8)], [], false, true, [])), (1, ([(1, 0, 12)], [], [(4, 6, 6), (5, 6, 7), (6, 6, 6), (6, 8, 8), (19, 0, 2)], [], false, true, []))])
theorem hc_102 : xctr kd0 sh0 rt0 bd0 un0 PR0 MT0 (ctL [(86, ct_100)]) 8 md_102 ct_102 = true := by decide +kernel
noncomputable def ct_103 : Ctr := ([(1, 0, 0), (2, 4, 0), (0, 0, 1800)], [], [], [(4, 4, 6), (4, 8, 8), (5, 5, 8), (6, 4, 4), (6, 6, 6), (6, 8, 8), (6, 10, 11), (9, 5, 5), (19, 0, 2), (20, 0, 11), (23, 0, 11), (24, 0, 11), (25, 0, 7), (26, 0, 95), (27, 0, 107)], [((0, 0), (0, (-2147483648), 2147483647), [], [])])
noncomputable def md_103 : MDT := (5, nb_X10_letDaysPass, [(1, ([(4, 0, 4389), (3, (-2147483648), 2147483647)], [], [(4, 4, 6), (4, 8, 8), (5, 5, 8), (6, 4, 4), (6, 6, 6), (6, 8, 8), (6, 10, 11), (9, 5, 5), (19, 0, 2), (20, 0, 11), (23, 0, 11), (24, 0, 11), (25, 0, 7), (26, 0, 95), (27, 0, 107)], [], false, true, []))])
theorem hc_103 : xctr kd0 sh0 rt0 bd0 un0 PR0 MT0 (ctL [(335, ct_54), (30, ct_95), (88, ct_99), (91, ct_101), (87, ct_102)]) 8 md_103 ct_103 = true := by decide +kernel
noncomputable def ct_104 : Ctr := ([(1, 0, 0), (0, (-2147483648), 2147483647), (0, (-2147483648), 2147483647)], [], [], [(4, 2, 10), (5, 0, 8), (6, 0, 4), (6, 6, 8), (6, 10, 11), (9, 5, 5), (19, 0, 2), (20, 0, 11), (23, 0, 11), (24, 0, 11), (25, 0, 7), (26, 0, 95), (27, 0, 107)], [((2, 2), (1, 0, 0), [], []), ((2, 1), (1, 0, 0), [(((.inl 7, (0, 0, 2)) : RK × Aff), 1, 12)], []), ((0, 0), (0, (-2147483648), 2147483647), [], [])])
noncomputable def md_104 : MDT := (3, nb_X10_savingsAfter, [])
theorem hc_104 : xctr kd0 sh0 rt0 bd0 un0 PR0 MT0 (ctL [(70, ct_46), (169, ct_103)]) 8 md_104 ct_104 = true := by decide +kernel
noncomputable def ct_105 : Ctr := ([(1, 0, 0), (0, (-2147483648), 2147483647), (0, (-2147483648), 2147483647)], [], [], [(4, 2, 10), (5, 0, 8), (6, 0, 4), (6, 6, 8), (6, 10, 11), (9, 5, 5), (19, 0, 2), (20, 0, 11), (23, 0, 11), (24, 0, 11), (25, 0, 7), (26, 0, 95), (27, 0, 107)], [((2, 2), (1, 0, 0), [], []), ((2, 1), (1, 0, 0), [(((.inl 7, (0, 0, 3)) : RK × Aff), 1, 8)], []), ((0, 0), (0, (-2147483648), 2147483647), [], [])])
noncomputable def md_105 : MDT := (3, nb_X10_purseAfter, [])
theorem hc_105 : xctr kd0 sh0 rt0 bd0 un0 PR0 MT0 (ctL [(70, ct_46), (169, ct_103)]) 8 md_105 ct_105 = true := by decide +kernel
noncomputable def ct_106 : Ctr := ([(1, 0, 0), (0, (-2147483648), 2147483647)], [], [], [(4, 2, 10), (5, 0, 8), (6, 0, 4), (6, 6, 8), (6, 10, 11), (9, 5, 5), (19, 0, 2), (20, 0, 11), (23, 0, 11), (24, 0, 11), (25, 0, 7), (26, 0, 95), (27, 0, 107)], [((2, 2), (1, 0, 0), [], []), ((0, 0), (0, 1, 120), [], []), ((0, 0), (0, (-1), (-1)), [], [])])
noncomputable def md_106 : MDT := (4, nb_X10_desertsIn, [(1, ([(3, 1, 121)], [], [(4, 4, 6), (4, 8, 8), (5, 5, 8), (6, 4, 4), (6, 6, 6), (6, 8, 8), (6, 10, 11), (9, 5, 5), (19, 0, 2), (20, 0, 11), (23, 0, 11), (24, 0, 11), (25, 0, 7), (26, 0, 95), (27, 0, 107)], [], false, true, []))])
theorem hc_106 : xctr kd0 sh0 rt0 bd0 un0 PR0 MT0 (ctL [(70, ct_46), (169, ct_103)]) 8 md_106 ct_106 = true := by decide +kernel
noncomputable def ct_107 : Ctr := ([(1, 0, 0), (0, (-2147483648), 2147483647), (0, (-2147483648), 2147483647)], [], [], [(4, 2, 10), (5, 0, 8), (6, 0, 4), (6, 6, 8), (6, 10, 11), (9, 5, 5), (19, 0, 2), (20, 0, 11), (23, 0, 11), (24, 0, 11), (25, 0, 7), (26, 0, 95), (27, 0, 107)], [((2, 2), (1, 0, 0), [], []), ((0, 0), (0, 1, 99), [], []), ((0, 0), (0, (-1), (-1)), [], [])])
noncomputable def md_107 : MDT := (4, nb_X10_leastWage, [(1, ([(3, 1, 100)], [], [(4, 2, 10), (5, 0, 8), (6, 0, 4), (6, 6, 8), (6, 10, 11), (9, 5, 5), (19, 0, 2), (20, 0, 11), (23, 0, 11), (24, 0, 11), (25, 0, 7), (26, 0, 95), (27, 0, 107)], [], false, true, []))])
theorem hc_107 : xctr kd0 sh0 rt0 bd0 un0 PR0 MT0 (ctL [(70, ct_46), (30, ct_95)]) 8 md_107 ct_107 = true := by decide +kernel
