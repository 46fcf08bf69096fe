noncomputable def ctL (l : List (Nat × Ctr)) (y : Nat) : List Ctr := List.rec [] (fun a _ ih => Bool.rec ih (a.2 :: ih) (Nat.beq a.1 y)) l
noncomputable def ct_0 : Ctr := ([(1, 0, 0), (0, (-2147483648), 2147483647), (0, (-2147483648), 2147483647), (0, (-2147483648), 2147483647), (0, (-2147483648), 2147483647), (0, (-2147483648), 2147483647)], [], [], [(1, 1, 1), (14, 0, 899)], [((0, 0), (0, 20, 900), [(((.inl 1, (0, 0, 1)) : RK × Aff), 20, 900)], []), ((2, 0), (1, 0, 0), [(((.inl 1, (0, 0, 1)) : RK × Aff), 881, 900)], [])])
noncomputable def md_0 : MDT := (6, nb_X10_append, [])
theorem hc_0 : xctr kd0 sh0 rt0 bd0 un0 PR0 MT0 (ctL []) 8 md_0 ct_0 = true := by decide +kernel
noncomputable def ct_1 : Ctr := ([(1, 0, 0), (0, (-2147483648), 2147483647)], [], [], [(1, 1, 1)], [((2, 1), (1, 0, 0), [], []), ((0, 0), (0, 0, 900), [], [])])
noncomputable def md_1 : MDT := (2, nb_X10_truncate, [])
theorem hc_1 : xctr kd0 sh0 rt0 bd0 un0 PR0 MT0 (ctL []) 8 md_1 ct_1 = true := by decide +kernel
noncomputable def ct_2 : Ctr := ([(1, 446, 0)], [(((.inl 446, (0, 0, 1)) : RK × Aff), 0, 900)], [], [(10, 1, 5)], [((1, 0), (1, 0, 0), [(((.inl 446, (0, 0, 2)) : RK × Aff), 0, 5), (((.inl 446, (0, 0, 4)) : RK × Aff), (-899), 900)], [])])
noncomputable def md_2 : MDT := (2, nb_X7_next, [(7, ([(1, 0, 1)], [(((.inl 446, (0, 0, 1)) : RK × Aff), 0, 900), (((.inl 446, (0, 0, 5)) : RK × Aff), (-2147483648), 2147483647)], [(10, 1, 1), (10, 4, 5)], [], true, true, [])), (0, ([], [(((.inl 446, (0, 0, 1)) : RK × Aff), 0, 900)], [(10, 1, 5)], [], true, true, []))])
noncomputable def ct_3 : Ctr := ([(1, 446, 0), (4, 21, 0)], [], [], [], [((0, 0), (0, 0, 1), [], [])])
noncomputable def md_3 : MDT := (3, nb_X7_wordIs, [(4, ([(2, 0, 4)], [], [], [], false, true, []))])
noncomputable def ct_4 : Ctr := ([(1, 446, 0), (4, 21, 0)], [(((.inl 446, (0, 0, 1)) : RK × Aff), 0, 900)], [], [(10, 1, 7)], [((0, 0), (0, 0, 0), [(((.inl 446, (0, 0, 2)) : RK × Aff), 0, 5), (((.inl 446, (0, 0, 4)) : RK × Aff), (-899), 900), (((.inl 446, (0, 0, 6)) : RK × Aff), 1, 1), (((.inl 446, (0, 0, 7)) : RK × Aff), 0, 900)], []), ((0, 0), (0, 1, 1), [(((.inl 446, (0, 0, 2)) : RK × Aff), 0, 5), (((.inl 446, (0, 0, 4)) : RK × Aff), (-899), 900)], [])])
noncomputable def md_4 : MDT := (2, nb_X7_takeWord, [])
theorem hc_4 : xctr kd0 sh0 rt0 bd0 un0 PR0 MT0 (ctL [(48, ct_2), (49, ct_3)]) 8 md_4 ct_4 = true := by decide +kernel
noncomputable def ct_5 : Ctr := ([(1, 446, 0), (0, 1, 1), (0, 30, 30)], [(((.inl 446, (0, 0, 1)) : RK × Aff), 0, 900)], [], [(10, 1, 7)], [((0, 0), (0, 0, 0), [(((.inl 446, (0, 0, 2)) : RK × Aff), 0, 5), (((.inl 446, (0, 0, 4)) : RK × Aff), (-899), 900), (((.inl 446, (0, 0, 6)) : RK × Aff), 1, 2), (((.inl 446, (0, 0, 7)) : RK × Aff), 0, 900)], []), ((0, 0), (0, 1, 1), [(((.inl 446, (0, 0, 2)) : RK × Aff), 2, 2), (((.inl 446, (0, 0, 4)) : RK × Aff), (-899), 4), (((.inl 446, (0, 0, 5)) : RK × Aff), 1, 30)], [])])
noncomputable def md_5 : MDT := (3, nb_X7_takeNumber, [])
theorem hc_5 : xctr kd0 sh0 rt0 bd0 un0 PR0 MT0 (ctL [(48, ct_2)]) 8 md_5 ct_5 = true := by decide +kernel
noncomputable def ct_6 : Ctr := ([(1, 446, 0)], [(((.inl 446, (0, 0, 1)) : RK × Aff), 0, 900)], [], [(10, 1, 7)], [((0, 0), (0, 1, 1), [(((.inl 446, (0, 0, 2)) : RK × Aff), 3, 3), (((.inl 446, (0, 0, 4)) : RK × Aff), (-899), 900)], []), ((0, 0), (0, 0, 0), [(((.inl 446, (0, 0, 2)) : RK × Aff), 0, 5), (((.inl 446, (0, 0, 4)) : RK × Aff), (-899), 900), (((.inl 446, (0, 0, 6)) : RK × Aff), 1, 1), (((.inl 446, (0, 0, 7)) : RK × Aff), 0, 900)], [])])
noncomputable def md_6 : MDT := (1, nb_X7_takeSemicolon, [])
theorem hc_6 : xctr kd0 sh0 rt0 bd0 un0 PR0 MT0 (ctL [(48, ct_2)]) 8 md_6 ct_6 = true := by decide +kernel
noncomputable def ct_7 : Ctr := ([(1, 447, 0)], [(((.inl 446, (0, 0, 1)) : RK × Aff), 0, 900)], [], [(7, 0, 0), (10, 1, 7)], [((0, 0), (0, 0, 0), [(((.inl 446, (0, 0, 2)) : RK × Aff), 0, 5), (((.inl 446, (0, 0, 4)) : RK × Aff), (-899), 900), (((.inl 446, (0, 0, 6)) : RK × Aff), 1, 2), (((.inl 446, (0, 0, 7)) : RK × Aff), 0, 900)], []), ((0, 0), (0, 1, 1), [(((.inl 85, (0, 0, 0)) : RK × Aff), 1, 30), (((.inl 446, (0, 0, 2)) : RK × Aff), 3, 3), (((.inl 446, (0, 0, 4)) : RK × Aff), (-899), 900)], [])])
noncomputable def md_7 : MDT := (1, nb_X2_takeSeason, [])
theorem hc_7 : xctr kd0 sh0 rt0 bd0 un0 PR0 MT0 (ctL [(51, ct_4), (55, ct_5), (52, ct_6)]) 8 md_7 ct_7 = true := by decide +kernel
noncomputable def ct_8 : Ctr := ([(1, 446, 0), (4, 27, 0)], [], [], [], [((0, 0), (0, 0, 1), [], [])])
noncomputable def md_8 : MDT := (3, nb_X7_wordIs, [(4, ([(2, 0, 3)], [], [], [], false, true, []))])
noncomputable def ct_9 : Ctr := ([(1, 446, 0), (4, 27, 0)], [(((.inl 446, (0, 0, 1)) : RK × Aff), 0, 900)], [], [(10, 1, 7)], [((0, 0), (0, 0, 0), [(((.inl 446, (0, 0, 2)) : RK × Aff), 0, 5), (((.inl 446, (0, 0, 4)) : RK × Aff), (-899), 900), (((.inl 446, (0, 0, 6)) : RK × Aff), 1, 1), (((.inl 446, (0, 0, 7)) : RK × Aff), 0, 900)], []), ((0, 0), (0, 1, 1), [(((.inl 446, (0, 0, 2)) : RK × Aff), 0, 5), (((.inl 446, (0, 0, 4)) : RK × Aff), (-899), 900)], [])])
noncomputable def md_9 : MDT := (2, nb_X7_takeWord, [])
theorem hc_9 : xctr kd0 sh0 rt0 bd0 un0 PR0 MT0 (ctL [(48, ct_2), (49, ct_8)]) 8 md_9 ct_9 = true := by decide +kernel
noncomputable def ct_10 : Ctr := ([(1, 447, 0)], [(((.inl 446, (0, 0, 1)) : RK × Aff), 0, 900)], [], [(7, 2, 2), (10, 1, 7), (21, 0, 11)], [((0, 0), (0, 0, 0), [(((.inl 446, (0, 0, 2)) : RK × Aff), 0, 5), (((.inl 446, (0, 0, 4)) : RK × Aff), (-899), 900), (((.inl 446, (0, 0, 6)) : RK × Aff), 1, 4), (((.inl 446, (0, 0, 7)) : RK × Aff), 0, 900)], []), ((0, 0), (0, 1, 1), [(((.inl 446, (0, 0, 2)) : RK × Aff), 3, 3), (((.inl 446, (0, 0, 4)) : RK × Aff), (-899), 900)], [])])
noncomputable def md_10 : MDT := (2, nb_X2_takeFog, [(3, ([(1, 0, 15)], [(((.inl 446, (0, 0, 2)) : RK × Aff), 0, 5), (((.inl 446, (0, 0, 4)) : RK × Aff), (-899), 900), (((.inl 85, (0, 0, 2)) : RK × Aff), 0, 12)], [(7, 2, 2), (10, 1, 7), (21, 0, 11)], [], false, true, []))])
theorem hc_10 : xctr kd0 sh0 rt0 bd0 un0 PR0 MT0 (ctL [(48, ct_2), (51, ct_9)]) 8 md_10 ct_10 = true := by decide +kernel
noncomputable def ct_11 : Ctr := ([(1, 446, 0), (4, 28, 0)], [], [], [], [((0, 0), (0, 0, 1), [], [])])
noncomputable def md_11 : MDT := (3, nb_X7_wordIs, [(4, ([(2, 0, 4)], [], [], [], false, true, []))])
noncomputable def ct_12 : Ctr := ([(1, 446, 0), (4, 29, 0)], [], [], [], [((0, 0), (0, 0, 1), [], [])])
noncomputable def md_12 : MDT := (3, nb_X7_wordIs, [(4, ([(2, 0, 6)], [], [], [], false, true, []))])
noncomputable def ct_13 : Ctr := ([(1, 446, 0), (4, 30, 0)], [], [], [], [((0, 0), (0, 0, 1), [], [])])
noncomputable def md_13 : MDT := (3, nb_X7_wordIs, [(4, ([(2, 0, 6)], [], [], [], false, true, []))])
noncomputable def ct_14 : Ctr := ([(1, 1, 0), (0, (-2147483648), 2147483647), (0, (-2147483648), 2147483647)], [], [], [], [((0, 0), (5, 0, 0), [], [])])
noncomputable def md_14 : MDT := (7, nb_X0_nameAt, [(4, ([(5, 0, 6)], [], [], [], false, true, [3]))])
theorem hc_14 : xctr kd0 sh0 rt0 bd0 un0 PR0 MT0 (ctL []) 8 md_14 ct_14 = true := by decide +kernel
noncomputable def ct_15 : Ctr := ([(2, 4, 0), (3, 0, 0)], [], [], [], [((0, 0), (0, (-1), 7), [], [])])
noncomputable def md_15 : MDT := (4, nb_X9_valleyNamed, [(1, ([(3, 0, 8)], [], [], [], false, true, []))])
theorem hc_15 : xctr kd0 sh0 rt0 bd0 un0 PR0 MT0 (ctL []) 8 md_15 ct_15 = true := by decide +kernel
noncomputable def ct_16 : Ctr := ([(1, 446, 0), (2, 4, 0)], [(((.inl 446, (0, 0, 1)) : RK × Aff), 0, 900)], [], [(10, 1, 7)], [((0, 0), (0, 0, 0), [(((.inl 446, (0, 0, 2)) : RK × Aff), 0, 5), (((.inl 446, (0, 0, 4)) : RK × Aff), (-899), 900), (((.inl 446, (0, 0, 6)) : RK × Aff), 1, 3), (((.inl 446, (0, 0, 7)) : RK × Aff), 0, 900)], []), ((0, 0), (0, 1, 1), [(((.inl 446, (0, 0, 2)) : RK × Aff), 1, 1), (((.inl 446, (0, 0, 4)) : RK × Aff), (-899), 6), (((.inl 446, (0, 0, 5)) : RK × Aff), 0, 7)], [])])
noncomputable def md_16 : MDT := (2, nb_X7_takeValley, [])
theorem hc_16 : xctr kd0 sh0 rt0 bd0 un0 PR0 MT0 (ctL [(48, ct_2), (5, ct_14), (72, ct_15)]) 8 md_16 ct_16 = true := by decide +kernel
noncomputable def ct_17 : Ctr := ([(2, 4, 0), (3, 0, 0)], [], [], [], [((0, 0), (0, (-1), 11), [], [])])
noncomputable def md_17 : MDT := (4, nb_X9_echoNamed, [(1, ([(3, 0, 12)], [], [], [], false, true, []))])
theorem hc_17 : xctr kd0 sh0 rt0 bd0 un0 PR0 MT0 (ctL []) 8 md_17 ct_17 = true := by decide +kernel
noncomputable def ct_18 : Ctr := ([(1, 446, 0), (2, 4, 0)], [(((.inl 446, (0, 0, 1)) : RK × Aff), 0, 900)], [], [(10, 1, 7)], [((0, 0), (0, 0, 0), [(((.inl 446, (0, 0, 2)) : RK × Aff), 0, 5), (((.inl 446, (0, 0, 4)) : RK × Aff), (-899), 900), (((.inl 446, (0, 0, 6)) : RK × Aff), 1, 3), (((.inl 446, (0, 0, 7)) : RK × Aff), 0, 900)], []), ((0, 0), (0, 1, 1), [(((.inl 446, (0, 0, 2)) : RK × Aff), 1, 1), (((.inl 446, (0, 0, 4)) : RK × Aff), (-899), 6), (((.inl 446, (0, 0, 5)) : RK × Aff), 0, 11)], [])])
noncomputable def md_18 : MDT := (2, nb_X7_takeEcho, [])
theorem hc_18 : xctr kd0 sh0 rt0 bd0 un0 PR0 MT0 (ctL [(48, ct_2), (5, ct_14), (71, ct_17)]) 8 md_18 ct_18 = true := by decide +kernel
noncomputable def ct_19 : Ctr := ([(1, 447, 0)], [(((.inl 446, (0, 0, 1)) : RK × Aff), 0, 900)], [], [(6, 7, 7), (10, 1, 7)], [((0, 0), (0, 0, 0), [(((.inl 446, (0, 0, 2)) : RK × Aff), 0, 5), (((.inl 446, (0, 0, 4)) : RK × Aff), (-899), 900), (((.inl 446, (0, 0, 6)) : RK × Aff), 1, 3), (((.inl 446, (0, 0, 7)) : RK × Aff), 0, 900)], []), ((0, 0), (0, 1, 1), [(((.inl 446, (0, 0, 2)) : RK × Aff), 3, 3), (((.inl 446, (0, 0, 4)) : RK × Aff), (-899), 900)], [])])
noncomputable def md_19 : MDT := (2, nb_X2_takeTest, [])
theorem hc_19 : xctr kd0 sh0 rt0 bd0 un0 PR0 MT0 (ctL [(52, ct_6), (58, ct_16), (57, ct_18)]) 8 md_19 ct_19 = true := by decide +kernel
noncomputable def ct_20 : Ctr := ([(1, 446, 0)], [(((.inl 446, (0, 0, 1)) : RK × Aff), 0, 900)], [], [(10, 1, 7)], [((0, 0), (0, 1, 1), [(((.inl 446, (0, 0, 2)) : RK × Aff), 1, 1), (((.inl 446, (0, 0, 4)) : RK × Aff), (-899), 6)], []), ((0, 0), (0, 0, 0), [(((.inl 446, (0, 0, 2)) : RK × Aff), 0, 5), (((.inl 446, (0, 0, 4)) : RK × Aff), (-899), 900), (((.inl 446, (0, 0, 6)) : RK × Aff), 1, 1), (((.inl 446, (0, 0, 7)) : RK × Aff), 0, 900)], [])])
noncomputable def md_20 : MDT := (1, nb_X7_takeName, [])
theorem hc_20 : xctr kd0 sh0 rt0 bd0 un0 PR0 MT0 (ctL [(48, ct_2)]) 8 md_20 ct_20 = true := by decide +kernel
noncomputable def ct_21 : Ctr := ([(2, 6, 0), (3, 0, 0)], [], [], [(6, 6, 8), (6, 10, 11), (20, 0, 11)], [((1, 0), (1, 0, 0), [], [])])
noncomputable def md_21 : MDT := (4, nb_X8_start, [(1, ([(3, 0, 12)], [], [(6, 10, 11), (20, 0, 11)], [], false, true, []))])
theorem hc_21 : xctr kd0 sh0 rt0 bd0 un0 PR0 MT0 (ctL []) 8 md_21 ct_21 = true := by decide +kernel
noncomputable def ct_22 : Ctr := ([(1, 446, 0), (0, 1, 1), (0, 9, 9)], [(((.inl 446, (0, 0, 1)) : RK × Aff), 0, 900)], [], [(10, 1, 7)], [((0, 0), (0, 0, 0), [(((.inl 446, (0, 0, 2)) : RK × Aff), 0, 5), (((.inl 446, (0, 0, 4)) : RK × Aff), (-899), 900), (((.inl 446, (0, 0, 6)) : RK × Aff), 1, 2), (((.inl 446, (0, 0, 7)) : RK × Aff), 0, 900)], []), ((0, 0), (0, 1, 1), [(((.inl 446, (0, 0, 2)) : RK × Aff), 2, 2), (((.inl 446, (0, 0, 4)) : RK × Aff), (-899), 4), (((.inl 446, (0, 0, 5)) : RK × Aff), 1, 9)], [])])
noncomputable def md_22 : MDT := (3, nb_X7_takeNumber, [])
theorem hc_22 : xctr kd0 sh0 rt0 bd0 un0 PR0 MT0 (ctL [(48, ct_2)]) 8 md_22 ct_22 = true := by decide +kernel
noncomputable def ct_23 : Ctr := ([(1, 446, 0), (0, 1, 1), (0, 3, 3)], [(((.inl 446, (0, 0, 1)) : RK × Aff), 0, 900)], [], [(10, 1, 7)], [((0, 0), (0, 0, 0), [(((.inl 446, (0, 0, 2)) : RK × Aff), 0, 5), (((.inl 446, (0, 0, 4)) : RK × Aff), (-899), 900), (((.inl 446, (0, 0, 6)) : RK × Aff), 1, 2), (((.inl 446, (0, 0, 7)) : RK × Aff), 0, 900)], []), ((0, 0), (0, 1, 1), [(((.inl 446, (0, 0, 2)) : RK × Aff), 2, 2), (((.inl 446, (0, 0, 4)) : RK × Aff), (-899), 4), (((.inl 446, (0, 0, 5)) : RK × Aff), 1, 3)], [])])
noncomputable def md_23 : MDT := (3, nb_X7_takeNumber, [])
theorem hc_23 : xctr kd0 sh0 rt0 bd0 un0 PR0 MT0 (ctL [(48, ct_2)]) 8 md_23 ct_23 = true := by decide +kernel
noncomputable def ct_24 : Ctr := ([(1, 446, 0), (0, 1, 1), (0, 99, 99)], [(((.inl 446, (0, 0, 1)) : RK × Aff), 0, 900)], [], [(10, 1, 7)], [((0, 0), (0, 0, 0), [(((.inl 446, (0, 0, 2)) : RK × Aff), 0, 5), (((.inl 446, (0, 0, 4)) : RK × Aff), (-899), 900), (((.inl 446, (0, 0, 6)) : RK × Aff), 1, 2), (((.inl 446, (0, 0, 7)) : RK × Aff), 0, 900)], []), ((0, 0), (0, 1, 1), [(((.inl 446, (0, 0, 2)) : RK × Aff), 2, 2), (((.inl 446, (0, 0, 4)) : RK × Aff), (-899), 4), (((.inl 446, (0, 0, 5)) : RK × Aff), 1, 99)], [])])
noncomputable def md_24 : MDT := (3, nb_X7_takeNumber, [])
theorem hc_24 : xctr kd0 sh0 rt0 bd0 un0 PR0 MT0 (ctL [(48, ct_2)]) 8 md_24 ct_24 = true := by decide +kernel
noncomputable def ct_25 : Ctr := ([(1, 446, 0), (0, 0, 0), (0, 9999, 9999)], [(((.inl 446, (0, 0, 1)) : RK × Aff), 0, 900)], [], [(10, 1, 7)], [((0, 0), (0, 0, 0), [(((.inl 446, (0, 0, 2)) : RK × Aff), 0, 5), (((.inl 446, (0, 0, 4)) : RK × Aff), (-899), 900), (((.inl 446, (0, 0, 6)) : RK × Aff), 1, 2), (((.inl 446, (0, 0, 7)) : RK × Aff), 0, 900)], []), ((0, 0), (0, 1, 1), [(((.inl 446, (0, 0, 2)) : RK × Aff), 2, 2), (((.inl 446, (0, 0, 4)) : RK × Aff), (-899), 4), (((.inl 446, (0, 0, 5)) : RK × Aff), 0, 9999)], [])])
noncomputable def md_25 : MDT := (3, nb_X7_takeNumber, [])
theorem hc_25 : xctr kd0 sh0 rt0 bd0 un0 PR0 MT0 (ctL [(48, ct_2)]) 8 md_25 ct_25 = true := by decide +kernel
noncomputable def ct_26 : Ctr := ([(1, 447, 0)], [(((.inl 446, (0, 0, 1)) : RK × Aff), 0, 900), (((.inl 46, (0, 0, 3)) : RK × Aff), 0, 8)], [], [(4, 3, 3), (4, 7, 7), (6, 1, 4), (6, 6, 8), (6, 10, 11), (10, 1, 7), (20, 0, 11)], [((0, 0), (0, 0, 0), [(((.inl 446, (0, 0, 6)) : RK × Aff), 1, 4), (((.inl 446, (0, 0, 7)) : RK × Aff), 0, 900)], []), ((0, 0), (0, 1, 1), [(((.inl 46, (0, 0, 3)) : RK × Aff), 1, 8), (((.inl 446, (0, 0, 2)) : RK × Aff), 3, 3), (((.inl 446, (0, 0, 4)) : RK × Aff), (-899), 900)], [])])
noncomputable def md_26 : MDT := (2, nb_X2_takeNewValley, [])
theorem hc_26 : xctr kd0 sh0 rt0 bd0 un0 PR0 MT0 (ctL [(52, ct_6), (5, ct_14), (72, ct_15), (54, ct_20), (60, ct_21), (55, ct_22), (55, ct_23), (55, ct_24), (55, ct_25)]) 8 md_26 ct_26 = true := by decide +kernel
noncomputable def ct_27 : Ctr := ([(1, 446, 0), (0, 0, 0), (0, 9, 9)], [(((.inl 446, (0, 0, 1)) : RK × Aff), 0, 900)], [], [(10, 1, 7)], [((0, 0), (0, 0, 0), [(((.inl 446, (0, 0, 2)) : RK × Aff), 0, 5), (((.inl 446, (0, 0, 4)) : RK × Aff), (-899), 900), (((.inl 446, (0, 0, 6)) : RK × Aff), 1, 2), (((.inl 446, (0, 0, 7)) : RK × Aff), 0, 900)], []), ((0, 0), (0, 1, 1), [(((.inl 446, (0, 0, 2)) : RK × Aff), 2, 2), (((.inl 446, (0, 0, 4)) : RK × Aff), (-899), 4), (((.inl 446, (0, 0, 5)) : RK × Aff), 0, 9)], [])])
noncomputable def md_27 : MDT := (3, nb_X7_takeNumber, [])
theorem hc_27 : xctr kd0 sh0 rt0 bd0 un0 PR0 MT0 (ctL [(48, ct_2)]) 8 md_27 ct_27 = true := by decide +kernel
noncomputable def ct_28 : Ctr := ([(1, 447, 0)], [(((.inl 446, (0, 0, 1)) : RK × Aff), 0, 900), (((.inl 46, (0, 0, 2)) : RK × Aff), 0, 12)], [], [(4, 2, 2), (5, 1, 8), (10, 1, 7)], [((0, 0), (0, 0, 0), [(((.inl 446, (0, 0, 6)) : RK × Aff), 1, 4), (((.inl 446, (0, 0, 7)) : RK × Aff), 0, 900)], []), ((0, 0), (0, 1, 1), [(((.inl 46, (0, 0, 2)) : RK × Aff), 1, 12), (((.inl 446, (0, 0, 2)) : RK × Aff), 3, 3), (((.inl 446, (0, 0, 4)) : RK × Aff), (-899), 900)], [])])
noncomputable def md_28 : MDT := (2, nb_X2_takeNewEcho, [])
theorem hc_28 : xctr kd0 sh0 rt0 bd0 un0 PR0 MT0 (ctL [(52, ct_6), (5, ct_14), (71, ct_17), (54, ct_20), (55, ct_22), (55, ct_24), (55, ct_27)]) 8 md_28 ct_28 = true := by decide +kernel
noncomputable def ct_29 : Ctr := ([(1, 447, 0)], [(((.inl 446, (0, 0, 1)) : RK × Aff), 0, 900)], [], [(4, 2, 3), (4, 7, 7), (5, 1, 8), (6, 1, 4), (6, 6, 8), (6, 10, 11), (10, 1, 7), (20, 0, 11)], [((0, 0), (0, 0, 0), [(((.inl 446, (0, 0, 6)) : RK × Aff), 1, 4), (((.inl 446, (0, 0, 7)) : RK × Aff), 0, 900)], []), ((0, 0), (0, 1, 1), [(((.inl 446, (0, 0, 2)) : RK × Aff), 3, 3), (((.inl 446, (0, 0, 4)) : RK × Aff), (-899), 900)], [])])
noncomputable def md_29 : MDT := (1, nb_X2_takeStatement, [])
theorem hc_29 : xctr kd0 sh0 rt0 bd0 un0 PR0 MT0 (ctL [(49, ct_11), (49, ct_12), (49, ct_13), (19, ct_19), (18, ct_26), (17, ct_28)]) 8 md_29 ct_29 = true := by decide +kernel
noncomputable def ct_30 : Ctr := ([(2, 4, 0), (2, 4, 0)], [], [], [(4, 2, 10), (5, 1, 8), (6, 1, 4), (6, 6, 8), (6, 10, 11), (19, 0, 2), (20, 0, 11)], [((1, 0), (1, 0, 0), [], [])])
noncomputable def md_30 : MDT := (3, nb_X9_copyFrom, [(4, ([(2, 0, 8)], [], [(6, 1, 4), (6, 6, 8), (6, 10, 11), (19, 0, 2), (20, 0, 11)], [], false, true, [])), (1, ([(2, 0, 12)], [], [(5, 1, 8), (6, 1, 4), (6, 6, 8), (6, 10, 11), (19, 0, 2), (20, 0, 11)], [], false, true, []))])
theorem hc_30 : xctr kd0 sh0 rt0 bd0 un0 PR0 MT0 (ctL []) 8 md_30 ct_30 = true := by decide +kernel
noncomputable def ct_32 : Ctr := ([(1, 0, 0)], [], [], [], [((0, 0), (0, (-2147483648), 2147483647), [], [])])
noncomputable def md_32 : MDT := (1, nb_X10_errorCode, [])
theorem hc_32 : xctr kd0 sh0 rt0 bd0 un0 PR0 MT0 (ctL []) 8 md_32 ct_32 = true := by decide +kernel
