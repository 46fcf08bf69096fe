noncomputable def ct_144 : Ctr := ([(1, 0, 0), (0, (-2147483648), 2147483647), (0, (-2147483648), 2147483647)], [], [], [], [((2, 2), (1, 0, 0), [], []), ((1, 0), (1, 0, 0), [], [])])
noncomputable def md_144 : MDT := (3, nb_X10_requirePair, [])
theorem hc_144 : xctr kd0 sh0 rt0 bd0 un0 PR0 MT0 (ctL [(161, ct_142), (162, ct_143)]) 8 md_144 ct_144 = true := by decide +kernel
noncomputable def ct_145 : Ctr := ([(1, 0, 0)], [], [], [(3, 0, 0), (3, 2, 2), (4, 2, 10), (5, 0, 8), (6, 0, 4), (6, 6, 8), (6, 10, 11), (8, 2, 2), (16, 0, 11), (19, 0, 2), (20, 0, 11)], [((1, 0), (1, 0, 0), [(((.inl 126, (0, 0, 2)) : RK × Aff), 0, 0)], [])])
noncomputable def md_145 : MDT := (1, nb_X10_adoptDraft, [])
theorem hc_145 : xctr kd0 sh0 rt0 bd0 un0 PR0 MT0 (ctL [(70, ct_46)]) 8 md_145 ct_145 = true := by decide +kernel
noncomputable def ct_146 : Ctr := ([(1, 0, 0)], [], [], [(0, 13, 14)], [((1, 0), (1, 0, 0), [], [])])
noncomputable def md_146 : MDT := (1, nb_X10_noteErrors, [])
theorem hc_146 : xctr kd0 sh0 rt0 bd0 un0 PR0 MT0 (ctL []) 8 md_146 ct_146 = true := by decide +kernel
