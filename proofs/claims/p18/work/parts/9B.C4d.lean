noncomputable def ct_108 : Ctr := ([(2, 4, 0), (0, 0, 7), (0, 0, 11)], [], [], [], [((0, 0), (0, 0, 1), [], [])])
noncomputable def md_108 : MDT := (3, nb_X9_canTest, [])
theorem hc_108 : xctr kd0 sh0 rt0 bd0 un0 PR0 MT0 (ctL []) 8 md_108 ct_108 = true := by decide +kernel
noncomputable def ct_109 : Ctr := ([(1, 0, 0), (0, (-2147483648), 2147483647)], [], [], [], [((2, 2), (1, 0, 0), [], []), ((0, 0), (0, (-1), 11), [], [])])
noncomputable def md_109 : MDT := (6, nb_X10_bestTest, [(1, ([(4, 0, 12), (2, (-1), 11), (3, (-2147483648), 2147483647)], [], [], [], false, true, []))])
theorem hc_109 : xctr kd0 sh0 rt0 bd0 un0 PR0 MT0 (ctL [(73, ct_72), (84, ct_108)]) 8 md_109 ct_109 = true := by decide +kernel
noncomputable def ct_110 : Ctr := ([(1, 0, 0)], [], [], [], [((0, 0), (0, 0, 11), [], [])])
noncomputable def md_110 : MDT := (3, nb_X10_richestEcho, [(1, ([(2, 1, 12), (1, 0, 11)], [], [], [], false, true, []))])
theorem hc_110 : xctr kd0 sh0 rt0 bd0 un0 PR0 MT0 (ctL []) 8 md_110 ct_110 = true := by decide +kernel
noncomputable def ct_111 : Ctr := ([(1, 0, 0), (0, (-2147483648), 2147483647), (0, (-2147483648), 2147483647)], [], [], [], [((2, 2), (1, 0, 0), [], []), ((0, 0), (0, (-2147483648), 2147483647), [], [])])
noncomputable def md_111 : MDT := (3, nb_X10_daysServed, [])
theorem hc_111 : xctr kd0 sh0 rt0 bd0 un0 PR0 MT0 (ctL []) 8 md_111 ct_111 = true := by decide +kernel
noncomputable def ct_112 : Ctr := ([(1, 0, 0)], [], [], [], [((0, 0), (0, (-2147483648), 2147483647), [], [])])
noncomputable def md_112 : MDT := (1, nb_X10_contractsMade, [])
theorem hc_112 : xctr kd0 sh0 rt0 bd0 un0 PR0 MT0 (ctL []) 8 md_112 ct_112 = true := by decide +kernel
noncomputable def ct_113 : Ctr := ([(1, 0, 0)], [], [], [], [((0, 0), (0, (-2147483648), 2147483647), [], [])])
noncomputable def md_113 : MDT := (1, nb_X10_contractsEnded, [])
theorem hc_113 : xctr kd0 sh0 rt0 bd0 un0 PR0 MT0 (ctL []) 8 md_113 ct_113 = true := by decide +kernel
noncomputable def ct_114 : Ctr := ([(1, 0, 0), (0, (-2147483648), 2147483647)], [], [], [], [((2, 2), (1, 0, 0), [], []), ((0, 0), (0, (-2147483648), 2147483647), [], [])])
noncomputable def md_114 : MDT := (2, nb_X10_desertions, [])
theorem hc_114 : xctr kd0 sh0 rt0 bd0 un0 PR0 MT0 (ctL []) 8 md_114 ct_114 = true := by decide +kernel
noncomputable def ct_115 : Ctr := ([(1, 0, 0), (0, (-2147483648), 2147483647)], [], [], [], [((2, 2), (1, 0, 0), [], []), ((0, 0), (0, (-2147483648), 2147483647), [], [])])
noncomputable def md_115 : MDT := (2, nb_X10_repliesHeard, [])
theorem hc_115 : xctr kd0 sh0 rt0 bd0 un0 PR0 MT0 (ctL []) 8 md_115 ct_115 = true := by decide +kernel
noncomputable def ct_116 : Ctr := ([(1, 0, 0), (0, (-2147483648), 2147483647)], [], [], [], [((2, 2), (1, 0, 0), [], []), ((0, 0), (0, (-2147483648), 2147483647), [], [])])
noncomputable def md_116 : MDT := (2, nb_X10_wagesPaid, [])
theorem hc_116 : xctr kd0 sh0 rt0 bd0 un0 PR0 MT0 (ctL []) 8 md_116 ct_116 = true := by decide +kernel
noncomputable def ct_117 : Ctr := ([(2, 4, 0)], [], [], [], [((0, 0), (0, (-2147483648), 2147483647), [], [])])
noncomputable def md_117 : MDT := (3, nb_X9_moneyInPurses, [(1, ([(2, 0, 8), (1, (-2147483648), 2147483647)], [], [], [], false, true, []))])
theorem hc_117 : xctr kd0 sh0 rt0 bd0 un0 PR0 MT0 (ctL []) 8 md_117 ct_117 = true := by decide +kernel
noncomputable def ct_118 : Ctr := ([(2, 4, 0)], [], [], [], [((0, 0), (0, (-2147483648), 2147483647), [], [])])
noncomputable def md_118 : MDT := (3, nb_X9_moneySaved, [(1, ([(2, 0, 12), (1, (-2147483648), 2147483647)], [], [], [], false, true, []))])
theorem hc_118 : xctr kd0 sh0 rt0 bd0 un0 PR0 MT0 (ctL []) 8 md_118 ct_118 = true := by decide +kernel
noncomputable def ct_119 : Ctr := ([(1, 0, 0)], [], [], [], [((0, 0), (0, (-2147483648), 2147483647), [], [])])
noncomputable def md_119 : MDT := (1, nb_X10_moneyImbalance, [])
theorem hc_119 : xctr kd0 sh0 rt0 bd0 un0 PR0 MT0 (ctL [(94, ct_117), (95, ct_118)]) 8 md_119 ct_119 = true := by decide +kernel
noncomputable def ct_120 : Ctr := ([(2, 4, 0)], [], [], [], [((0, 0), (0, (-2147483648), 2147483647), [], [])])
noncomputable def md_120 : MDT := (3, nb_X9_contracts, [(1, ([(2, 0, 8), (1, (-2147483648), 2147483647)], [], [], [], false, true, []))])
theorem hc_120 : xctr kd0 sh0 rt0 bd0 un0 PR0 MT0 (ctL []) 8 md_120 ct_120 = true := by decide +kernel
noncomputable def ct_121 : Ctr := ([(1, 0, 0)], [], [], [], [((0, 0), (0, (-2147483648), 2147483647), [], [])])
noncomputable def md_121 : MDT := (1, nb_X10_contractImbalance, [])
theorem hc_121 : xctr kd0 sh0 rt0 bd0 un0 PR0 MT0 (ctL [(96, ct_120)]) 8 md_121 ct_121 = true := by decide +kernel
noncomputable def ct_122 : Ctr := ([(2, 4, 0), (0, (-2147483648), 2147483647)], [], [], [], [((0, 0), (0, (-2147483648), 2147483647), [], [])])
noncomputable def md_122 : MDT := (5, nb_X9_valleysServedBy, [(3, ([(4, 0, 3), (2, (-2147483648), 2147483647)], [], [], [], false, true, [])), (1, ([(3, 0, 8), (2, (-2147483648), 2147483647)], [], [], [], false, true, []))])
theorem hc_122 : xctr kd0 sh0 rt0 bd0 un0 PR0 MT0 (ctL []) 8 md_122 ct_122 = true := by decide +kernel
noncomputable def ct_123 : Ctr := ([(1, 0, 0)], [], [], [], [((0, 0), (0, (-2147483648), 2147483647), [], [])])
noncomputable def md_123 : MDT := (3, nb_X10_doubleServants, [(1, ([(2, 0, 12), (1, (-2147483648), 2147483647)], [], [], [], false, true, []))])
theorem hc_123 : xctr kd0 sh0 rt0 bd0 un0 PR0 MT0 (ctL [(97, ct_122)]) 8 md_123 ct_123 = true := by decide +kernel
noncomputable def ct_124 : Ctr := ([(1, 0, 0)], [], [], [], [((0, 0), (3, 0, 0), [], [])])
noncomputable def md_124 : MDT := (1, nb_X10_meanSavings, [])
theorem hc_124 : xctr kd0 sh0 rt0 bd0 un0 PR0 MT0 (ctL [(95, ct_118)]) 8 md_124 ct_124 = true := by decide +kernel
noncomputable def ct_125 : Ctr := ([(1, 0, 0)], [], [], [], [((0, 0), (10, 0, 0), [], [])])
noncomputable def md_125 : MDT := (3, nb_X10_employmentRate, [(3, ([(2, 0, 12), (1, (-2147483648), 2147483647)], [], [], [], false, true, []))])
theorem hc_125 : xctr kd0 sh0 rt0 bd0 un0 PR0 MT0 (ctL []) 8 md_125 ct_125 = true := by decide +kernel
noncomputable def ct_126 : Ctr := ([(1, 126, 0), (2, 4, 0)], [], [], [(4, 2, 10), (5, 0, 8), (6, 0, 4), (6, 6, 8), (6, 10, 11), (8, 1, 2), (19, 0, 2), (20, 0, 11)], [((1, 0), (1, 0, 0), [(((.inl 126, (0, 0, 2)) : RK × Aff), 1, 8)], [])])
noncomputable def md_126 : MDT := (2, nb_X4_push, [])
theorem hc_126 : xctr kd0 sh0 rt0 bd0 un0 PR0 MT0 (ctL [(70, ct_46)]) 8 md_126 ct_126 = true := by decide +kernel
noncomputable def ct_127 : Ctr := ([(1, 0, 0), (0, (-2147483648), 2147483647)], [], [], [(4, 2, 10), (5, 0, 8), (6, 0, 4), (6, 6, 8), (6, 10, 11), (8, 1, 2), (9, 5, 5), (19, 0, 2), (20, 0, 11), (23, 0, 11), (24, 0, 11), (25, 0, 7), (26, 0, 95), (27, 0, 107)], [((2, 1), (1, 0, 0), [], []), ((0, 0), (0, (-2147483648), 2147483647), [(((.inl 126, (0, 0, 2)) : RK × Aff), 1, 8)], [])])
noncomputable def md_127 : MDT := (2, nb_X10_passDays, [])
theorem hc_127 : xctr kd0 sh0 rt0 bd0 un0 PR0 MT0 (ctL [(169, ct_103), (27, ct_126)]) 8 md_127 ct_127 = true := by decide +kernel
noncomputable def ct_128 : Ctr := ([(1, 0, 0)], [], [], [(4, 2, 10), (5, 0, 8), (6, 0, 4), (6, 6, 8), (6, 10, 11), (8, 1, 2), (9, 5, 5), (19, 0, 2), (20, 0, 11), (23, 0, 11), (24, 0, 11), (25, 0, 7), (26, 0, 95), (27, 0, 107)], [((0, 0), (0, (-2147483648), 2147483647), [(((.inl 126, (0, 0, 2)) : RK × Aff), 1, 8)], [])])
noncomputable def md_128 : MDT := (1, nb_X10_holdFair, [])
theorem hc_128 : xctr kd0 sh0 rt0 bd0 un0 PR0 MT0 (ctL [(30, ct_95), (27, ct_126)]) 8 md_128 ct_128 = true := by decide +kernel
noncomputable def ct_129 : Ctr := ([(1, 0, 0), (0, (-2147483648), 2147483647), (0, (-2147483648), 2147483647)], [], [], [(4, 2, 10), (5, 0, 8), (6, 0, 4), (6, 6, 8), (6, 10, 11), (8, 1, 2), (19, 0, 2), (20, 0, 11)], [((2, 2), (1, 0, 0), [], []), ((2, 0), (1, 0, 0), [(((.inl 7, (0, 0, 3)) : RK × Aff), 1, 8), (((.inl 7, (0, 0, 2)) : RK × Aff), 1, 12)], []), ((0, 0), (0, (-2147483648), 2147483647), [(((.inl 126, (0, 0, 2)) : RK × Aff), 1, 8)], [])])
noncomputable def md_129 : MDT := (3, nb_X10_test, [])
theorem hc_129 : xctr kd0 sh0 rt0 bd0 un0 PR0 MT0 (ctL [(73, ct_72), (84, ct_108), (27, ct_126)]) 8 md_129 ct_129 = true := by decide +kernel
noncomputable def ct_130 : Ctr := ([(1, 0, 0), (0, (-2147483648), 2147483647)], [], [], [(4, 2, 10), (5, 0, 8), (6, 0, 4), (6, 6, 8), (6, 10, 11), (8, 1, 2), (19, 0, 2), (20, 0, 11)], [((2, 2), (1, 0, 0), [], []), ((2, 0), (1, 0, 0), [(((.inl 7, (0, 0, 2)) : RK × Aff), 1, 12)], []), ((0, 0), (0, 0, 7), [(((.inl 126, (0, 0, 2)) : RK × Aff), 1, 8)], [])])
noncomputable def md_130 : MDT := (3, nb_X10_dismiss, [])
theorem hc_130 : xctr kd0 sh0 rt0 bd0 un0 PR0 MT0 (ctL [(86, ct_100), (27, ct_126)]) 8 md_130 ct_130 = true := by decide +kernel
noncomputable def ct_131 : Ctr := ([(1, 0, 0), (0, (-2147483648), 2147483647), (0, (-2147483648), 2147483647)], [], [], [(4, 2, 10), (5, 0, 8), (6, 0, 4), (6, 6, 8), (6, 10, 11), (8, 1, 2), (19, 0, 2), (20, 0, 11)], [((2, 2), (1, 0, 0), [], []), ((2, 1), (1, 0, 0), [(((.inl 7, (0, 0, 3)) : RK × Aff), 1, 8)], []), ((0, 0), (0, (-2147483648), 2147483647), [(((.inl 126, (0, 0, 2)) : RK × Aff), 1, 8)], [])])
noncomputable def md_131 : MDT := (5, nb_X10_setWage, [])
theorem hc_131 : xctr kd0 sh0 rt0 bd0 un0 PR0 MT0 (ctL [(27, ct_126)]) 8 md_131 ct_131 = true := by decide +kernel
noncomputable def ct_132 : Ctr := ([(1, 0, 0), (0, (-2147483648), 2147483647), (0, (-2147483648), 2147483647)], [], [], [(4, 2, 10), (5, 0, 8), (6, 0, 4), (6, 6, 8), (6, 10, 11), (8, 1, 2), (19, 0, 2), (20, 0, 11)], [((2, 2), (1, 0, 0), [], []), ((2, 1), (1, 0, 0), [(((.inl 7, (0, 0, 3)) : RK × Aff), 1, 8)], []), ((0, 0), (0, (-2147483648), 2147483647), [(((.inl 126, (0, 0, 2)) : RK × Aff), 1, 8)], [])])
noncomputable def md_132 : MDT := (4, nb_X10_fund, [])
theorem hc_132 : xctr kd0 sh0 rt0 bd0 un0 PR0 MT0 (ctL [(27, ct_126)]) 8 md_132 ct_132 = true := by decide +kernel
noncomputable def ct_133 : Ctr := ([(1, 0, 0), (0, (-2147483648), 2147483647)], [], [], [(4, 2, 10), (5, 0, 8), (6, 0, 4), (6, 6, 8), (6, 10, 11), (8, 1, 2), (19, 0, 2), (20, 0, 11)], [((2, 2), (1, 0, 0), [], []), ((2, 0), (1, 0, 0), [(((.inl 7, (0, 0, 2)) : RK × Aff), 1, 12)], []), ((0, 0), (0, (-2147483648), 2147483647), [(((.inl 126, (0, 0, 2)) : RK × Aff), 1, 8)], [])])
noncomputable def md_133 : MDT := (3, nb_X10_train, [])
theorem hc_133 : xctr kd0 sh0 rt0 bd0 un0 PR0 MT0 (ctL [(27, ct_126)]) 8 md_133 ct_133 = true := by decide +kernel
noncomputable def ct_134 : Ctr := ([(1, 126, 0), (2, 4, 0)], [], [], [(4, 2, 10), (5, 0, 8), (6, 0, 4), (6, 6, 8), (6, 10, 11), (8, 1, 2), (19, 0, 2), (20, 0, 11)], [((1, 0), (1, 0, 0), [(((.inl 126, (0, 0, 2)) : RK × Aff), 0, 7)], [])])
noncomputable def md_134 : MDT := (2, nb_X4_pop, [])
theorem hc_134 : xctr kd0 sh0 rt0 bd0 un0 PR0 MT0 (ctL [(70, ct_46)]) 8 md_134 ct_134 = true := by decide +kernel
noncomputable def ct_135 : Ctr := ([(1, 0, 0)], [], [], [(4, 2, 10), (5, 0, 8), (6, 0, 4), (6, 6, 8), (6, 10, 11), (8, 1, 2), (19, 0, 2), (20, 0, 11)], [((2, 0), (1, 0, 0), [(((.inl 126, (0, 0, 2)) : RK × Aff), 0, 0)], []), ((0, 0), (0, 0, 7), [(((.inl 126, (0, 0, 2)) : RK × Aff), 0, 7)], [])])
noncomputable def md_135 : MDT := (1, nb_X10_undo, [])
theorem hc_135 : xctr kd0 sh0 rt0 bd0 un0 PR0 MT0 (ctL [(28, ct_134)]) 8 md_135 ct_135 = true := by decide +kernel
noncomputable def ct_136 : Ctr := ([(1, 0, 0)], [], [], [(0, 7, 7), (4, 2, 10), (5, 0, 8), (6, 0, 4), (6, 6, 8), (6, 10, 11), (19, 0, 2), (20, 0, 11)], [((0, 0), (0, (-2147483648), 2147483647), [(((.inl 0, (0, 0, 7)) : RK × Aff), 1, 1)], [])])
noncomputable def md_136 : MDT := (1, nb_X10_save, [])
theorem hc_136 : xctr kd0 sh0 rt0 bd0 un0 PR0 MT0 (ctL [(70, ct_46)]) 8 md_136 ct_136 = true := by decide +kernel
noncomputable def ct_137 : Ctr := ([(1, 0, 0)], [], [], [(4, 2, 10), (5, 0, 8), (6, 0, 4), (6, 6, 8), (6, 10, 11), (8, 2, 2), (19, 0, 2), (20, 0, 11)], [((2, 0), (1, 0, 0), [], []), ((0, 0), (0, (-2147483648), 2147483647), [(((.inl 126, (0, 0, 2)) : RK × Aff), 0, 0)], [])])
noncomputable def md_137 : MDT := (1, nb_X10_restore, [])
theorem hc_137 : xctr kd0 sh0 rt0 bd0 un0 PR0 MT0 (ctL [(70, ct_46)]) 8 md_137 ct_137 = true := by decide +kernel
noncomputable def ct_138 : Ctr := ([(1, 3, 0), (3, 0, 0)], [], [], [(2, 1, 1), (15, 0, 159)], [((1, 0), (1, 0, 0), [], [])])
noncomputable def md_138 : MDT := (5, nb_X0_addName, [(1, ([(3, (-12), 40)], [], [(2, 1, 1), (15, 0, 159)], [], false, false, []))])
theorem hc_138 : xctr kd0 sh0 rt0 bd0 un0 PR0 MT0 (ctL []) 8 md_138 ct_138 = true := by decide +kernel
noncomputable def ct_139 : Ctr := ([(1, 0, 0), (2, 6, 0)], [], [], [(2, 1, 1), (15, 0, 159)], [((1, 0), (1, 0, 0), [], [])])
noncomputable def md_139 : MDT := (3, nb_X10_writeContracts, [(1, ([(2, 0, 3)], [], [(2, 1, 1), (15, 0, 159)], [], false, true, []))])
theorem hc_139 : xctr kd0 sh0 rt0 bd0 un0 PR0 MT0 (ctL [(3, ct_138)]) 8 md_139 ct_139 = true := by decide +kernel
noncomputable def ct_140 : Ctr := ([(1, 0, 0)], [], [], [(2, 1, 1), (15, 0, 159)], [((0, 0), (0, 0, 160), [], [])])
noncomputable def md_140 : MDT := (2, nb_X10_formatContracts, [(1, ([(1, 0, 8)], [], [(2, 1, 1), (15, 0, 159)], [], false, true, []))])
theorem hc_140 : xctr kd0 sh0 rt0 bd0 un0 PR0 MT0 (ctL [(171, ct_139)]) 8 md_140 ct_140 = true := by decide +kernel
noncomputable def ct_141 : Ctr := ([(1, 0, 0), (0, (-2147483648), 2147483647)], [], [], [], [((0, 0), (0, (-1), (-1)), [], []), ((0, 0), (0, (-128), 127), [], [])])
noncomputable def md_141 : MDT := (2, nb_X10_outputByte, [])
theorem hc_141 : xctr kd0 sh0 rt0 bd0 un0 PR0 MT0 (ctL []) 8 md_141 ct_141 = true := by decide +kernel
noncomputable def ct_142 : Ctr := ([(1, 0, 0), (0, (-2147483648), 2147483647)], [], [], [], [((2, 2), (1, 0, 0), [], []), ((1, 0), (1, 0, 0), [], [])])
noncomputable def md_142 : MDT := (2, nb_X10_requireEcho, [])
theorem hc_142 : xctr kd0 sh0 rt0 bd0 un0 PR0 MT0 (ctL []) 8 md_142 ct_142 = true := by decide +kernel
noncomputable def ct_143 : Ctr := ([(1, 0, 0), (0, (-2147483648), 2147483647)], [], [], [], [((2, 2), (1, 0, 0), [], []), ((1, 0), (1, 0, 0), [], [])])
noncomputable def md_143 : MDT := (2, nb_X10_requireValley, [])
theorem hc_143 : xctr kd0 sh0 rt0 bd0 un0 PR0 MT0 (ctL []) 8 md_143 ct_143 = true := by decide +kernel
