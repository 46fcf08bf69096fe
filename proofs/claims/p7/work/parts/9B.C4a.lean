noncomputable def ctL (l : List (Nat × Ctr)) (y : Nat) : List Ctr := List.rec [] (fun a _ ih => Bool.rec ih (a.2 :: ih) (Nat.beq a.1 y)) l
noncomputable def ct_0 : Ctr := ([(1, 0, 0), (0, (-2147483648), 2147483647), (0, (-2147483648), 2147483647), (0, (-2147483648), 2147483647), (0, (-2147483648), 2147483647), (0, (-2147483648), 2147483647)], [], [], [(1, 1, 1), (14, 0, 399), (14, 400, 799), (14, 800, 899)], [((0, 0), (0, 20, 900), [(((.inl 1, (0, 0, 1)) : RK × Aff), 20, 900)], []), ((2, 0), (1, 0, 0), [(((.inl 1, (0, 0, 1)) : RK × Aff), 881, 900)], [])])
noncomputable def md_0 : MDT := (6, nb_X10_append, [])
theorem hc_0 : xctr kd0 sh0 rt0 bd0 un0 PR0 MT0 (ctL []) 8 md_0 ct_0 = true := by decide +kernel
noncomputable def ct_1 : Ctr := ([(1, 0, 0), (0, (-2147483648), 2147483647)], [], [], [(1, 1, 1)], [((2, 1), (1, 0, 0), [], []), ((0, 0), (0, 0, 900), [], [])])
noncomputable def md_1 : MDT := (2, nb_X10_truncate, [])
theorem hc_1 : xctr kd0 sh0 rt0 bd0 un0 PR0 MT0 (ctL []) 8 md_1 ct_1 = true := by decide +kernel
noncomputable def ct_2 : Ctr := ([(1, 446, 0)], [(((.inl 446, (0, 0, 1)) : RK × Aff), 0, 900)], [], [(10, 1, 5)], [((1, 0), (1, 0, 0), [(((.inl 446, (0, 0, 2)) : RK × Aff), 0, 5), (((.inl 446, (0, 0, 4)) : RK × Aff), (-900), 900)], [])])
noncomputable def md_2 : MDT := (2, nb_X7_next, [(7, ([(1, 0, 1)], [(((.inl 446, (0, 0, 1)) : RK × Aff), 0, 900), (((.inl 446, (0, 0, 5)) : RK × Aff), (-2147483648), 2147483647)], [(10, 1, 1), (10, 4, 5)], [], true, true, [])), (0, ([], [(((.inl 446, (0, 0, 1)) : RK × Aff), 0, 900)], [(10, 1, 5)], [], true, true, []))])
theorem hc_2 : xctr kd0 sh0 rt0 bd0 un0 PR0 MT0 (ctL []) 8 md_2 ct_2 = true := by decide +kernel
/-- by hand: J0_length_8abf5 -/
noncomputable def ct_3 : Ctr := ([(4, 21, 0)], [], [], [], [((0, 0), (0, 4, 4), [], [])])
/-- by hand: J0_charAt_5068e -/
noncomputable def ct_4 : Ctr := ([(4, 21, 0), (0, 0, 0)], [], [], [], [((0, 0), (0, 102, 102), [], [])])
/-- by hand: J0_charAt_5068e -/
noncomputable def ct_5 : Ctr := ([(4, 21, 0), (0, 0, 3)], [], [], [], [((0, 0), (0, 97, 114), [], [])])
noncomputable def ct_6 : Ctr := ([(1, 446, 0), (4, 21, 0)], [], [], [], [((0, 0), (0, 0, 1), [], [])])
noncomputable def md_6 : MDT := (3, nb_X7_wordIs, [(4, ([(2, 0, 4)], [], [], [], false, true, []))])
theorem hc_6 : xctr kd0 sh0 rt0 bd0 un0 PR0 MT0 (ctL [(338, ct_3), (339, ct_4), (339, ct_5)]) 8 md_6 ct_6 = true := by decide +kernel
noncomputable def ct_7 : Ctr := ([(1, 446, 0), (4, 21, 0)], [(((.inl 446, (0, 0, 1)) : RK × Aff), 0, 900)], [], [(10, 1, 7)], [((0, 0), (0, 0, 0), [(((.inl 446, (0, 0, 2)) : RK × Aff), 0, 5), (((.inl 446, (0, 0, 4)) : RK × Aff), (-900), 900), (((.inl 446, (0, 0, 6)) : RK × Aff), 1, 1), (((.inl 446, (0, 0, 7)) : RK × Aff), 0, 900)], []), ((0, 0), (0, 1, 1), [(((.inl 446, (0, 0, 2)) : RK × Aff), 0, 5), (((.inl 446, (0, 0, 4)) : RK × Aff), (-900), 900)], [])])
noncomputable def md_7 : MDT := (2, nb_X7_takeWord, [])
theorem hc_7 : xctr kd0 sh0 rt0 bd0 un0 PR0 MT0 (ctL [(48, ct_2), (49, ct_6)]) 8 md_7 ct_7 = true := by decide +kernel
noncomputable def ct_8 : Ctr := ([(1, 446, 0), (0, 1, 1), (0, 30, 30)], [(((.inl 446, (0, 0, 1)) : RK × Aff), 0, 900)], [], [(10, 1, 7)], [((0, 0), (0, 0, 0), [(((.inl 446, (0, 0, 2)) : RK × Aff), 0, 5), (((.inl 446, (0, 0, 4)) : RK × Aff), (-900), 900), (((.inl 446, (0, 0, 6)) : RK × Aff), 1, 2), (((.inl 446, (0, 0, 7)) : RK × Aff), 0, 900)], []), ((0, 0), (0, 1, 1), [(((.inl 446, (0, 0, 2)) : RK × Aff), 2, 2), (((.inl 446, (0, 0, 4)) : RK × Aff), (-900), 4), (((.inl 446, (0, 0, 5)) : RK × Aff), 1, 30)], [])])
noncomputable def md_8 : MDT := (3, nb_X7_takeNumber, [])
theorem hc_8 : xctr kd0 sh0 rt0 bd0 un0 PR0 MT0 (ctL [(48, ct_2)]) 8 md_8 ct_8 = true := by decide +kernel
noncomputable def ct_9 : Ctr := ([(1, 446, 0)], [(((.inl 446, (0, 0, 1)) : RK × Aff), 0, 900)], [], [(10, 1, 7)], [((0, 0), (0, 1, 1), [(((.inl 446, (0, 0, 2)) : RK × Aff), 3, 3), (((.inl 446, (0, 0, 4)) : RK × Aff), (-900), 900)], []), ((0, 0), (0, 0, 0), [(((.inl 446, (0, 0, 2)) : RK × Aff), 0, 5), (((.inl 446, (0, 0, 4)) : RK × Aff), (-900), 900), (((.inl 446, (0, 0, 6)) : RK × Aff), 1, 1), (((.inl 446, (0, 0, 7)) : RK × Aff), 0, 900)], [])])
noncomputable def md_9 : MDT := (1, nb_X7_takeSemicolon, [])
theorem hc_9 : xctr kd0 sh0 rt0 bd0 un0 PR0 MT0 (ctL [(48, ct_2)]) 8 md_9 ct_9 = true := by decide +kernel
noncomputable def ct_10 : Ctr := ([(1, 447, 0)], [(((.inl 446, (0, 0, 1)) : RK × Aff), 0, 900)], [], [(7, 0, 0), (10, 1, 7)], [((0, 0), (0, 0, 0), [(((.inl 446, (0, 0, 2)) : RK × Aff), 0, 5), (((.inl 446, (0, 0, 4)) : RK × Aff), (-900), 900), (((.inl 446, (0, 0, 6)) : RK × Aff), 1, 2), (((.inl 446, (0, 0, 7)) : RK × Aff), 0, 900)], []), ((0, 0), (0, 1, 1), [(((.inl 85, (0, 0, 0)) : RK × Aff), 1, 30), (((.inl 446, (0, 0, 2)) : RK × Aff), 3, 3), (((.inl 446, (0, 0, 4)) : RK × Aff), (-900), 900)], [])])
noncomputable def md_10 : MDT := (1, nb_X2_takeSeason, [])
theorem hc_10 : xctr kd0 sh0 rt0 bd0 un0 PR0 MT0 (ctL [(51, ct_7), (55, ct_8), (52, ct_9)]) 8 md_10 ct_10 = true := by decide +kernel
/-- by hand: J0_length_8abf5 -/
noncomputable def ct_11 : Ctr := ([(4, 27, 0)], [], [], [], [((0, 0), (0, 3, 3), [], [])])
/-- by hand: J0_charAt_5068e -/
noncomputable def ct_12 : Ctr := ([(4, 27, 0), (0, 0, 0)], [], [], [], [((0, 0), (0, 102, 102), [], [])])
/-- by hand: J0_charAt_5068e -/
noncomputable def ct_13 : Ctr := ([(4, 27, 0), (0, 0, 2)], [], [], [], [((0, 0), (0, 102, 111), [], [])])
noncomputable def ct_14 : Ctr := ([(1, 446, 0), (4, 27, 0)], [], [], [], [((0, 0), (0, 0, 1), [], [])])
noncomputable def md_14 : MDT := (3, nb_X7_wordIs, [(4, ([(2, 0, 3)], [], [], [], false, true, []))])
theorem hc_14 : xctr kd0 sh0 rt0 bd0 un0 PR0 MT0 (ctL [(338, ct_11), (339, ct_12), (339, ct_13)]) 8 md_14 ct_14 = true := by decide +kernel
noncomputable def ct_15 : Ctr := ([(1, 446, 0), (4, 27, 0)], [(((.inl 446, (0, 0, 1)) : RK × Aff), 0, 900)], [], [(10, 1, 7)], [((0, 0), (0, 0, 0), [(((.inl 446, (0, 0, 2)) : RK × Aff), 0, 5), (((.inl 446, (0, 0, 4)) : RK × Aff), (-900), 900), (((.inl 446, (0, 0, 6)) : RK × Aff), 1, 1), (((.inl 446, (0, 0, 7)) : RK × Aff), 0, 900)], []), ((0, 0), (0, 1, 1), [(((.inl 446, (0, 0, 2)) : RK × Aff), 0, 5), (((.inl 446, (0, 0, 4)) : RK × Aff), (-900), 900)], [])])
noncomputable def md_15 : MDT := (2, nb_X7_takeWord, [])
theorem hc_15 : xctr kd0 sh0 rt0 bd0 un0 PR0 MT0 (ctL [(48, ct_2), (49, ct_14)]) 8 md_15 ct_15 = true := by decide +kernel
noncomputable def ct_16 : Ctr := ([(1, 447, 0)], [(((.inl 446, (0, 0, 1)) : RK × Aff), 0, 900)], [], [(7, 2, 2), (10, 1, 7), (21, 0, 11)], [((0, 0), (0, 0, 0), [(((.inl 446, (0, 0, 2)) : RK × Aff), 0, 5), (((.inl 446, (0, 0, 4)) : RK × Aff), (-900), 900), (((.inl 446, (0, 0, 6)) : RK × Aff), 1, 4), (((.inl 446, (0, 0, 7)) : RK × Aff), 0, 900)], []), ((0, 0), (0, 1, 1), [(((.inl 446, (0, 0, 2)) : RK × Aff), 3, 3), (((.inl 446, (0, 0, 4)) : RK × Aff), (-900), 900)], [])])
noncomputable def md_16 : MDT := (2, nb_X2_takeFog, [(3, ([(1, 0, 15)], [(((.inl 446, (0, 0, 2)) : RK × Aff), 0, 5), (((.inl 446, (0, 0, 4)) : RK × Aff), (-900), 900), (((.inl 85, (0, 0, 2)) : RK × Aff), 0, 12)], [(7, 2, 2), (10, 1, 7), (21, 0, 11)], [], false, true, []))])
theorem hc_16 : xctr kd0 sh0 rt0 bd0 un0 PR0 MT0 (ctL [(48, ct_2), (51, ct_15)]) 8 md_16 ct_16 = true := by decide +kernel
/-- by hand: J0_length_8abf5 -/
noncomputable def ct_17 : Ctr := ([(4, 28, 0)], [], [], [], [((0, 0), (0, 4, 4), [], [])])
/-- by hand: J0_charAt_5068e -/
noncomputable def ct_18 : Ctr := ([(4, 28, 0), (0, 0, 0)], [], [], [], [((0, 0), (0, 101, 101), [], [])])
/-- by hand: J0_charAt_5068e -/
noncomputable def ct_19 : Ctr := ([(4, 28, 0), (0, 0, 3)], [], [], [], [((0, 0), (0, 99, 111), [], [])])
noncomputable def ct_20 : Ctr := ([(1, 446, 0), (4, 28, 0)], [], [], [], [((0, 0), (0, 0, 1), [], [])])
noncomputable def md_20 : MDT := (3, nb_X7_wordIs, [(4, ([(2, 0, 4)], [], [], [], false, true, []))])
theorem hc_20 : xctr kd0 sh0 rt0 bd0 un0 PR0 MT0 (ctL [(338, ct_17), (339, ct_18), (339, ct_19)]) 8 md_20 ct_20 = true := by decide +kernel
/-- by hand: J0_length_8abf5 -/
noncomputable def ct_21 : Ctr := ([(4, 29, 0)], [], [], [], [((0, 0), (0, 6, 6), [], [])])
/-- by hand: J0_charAt_5068e -/
noncomputable def ct_22 : Ctr := ([(4, 29, 0), (0, 0, 0)], [], [], [], [((0, 0), (0, 118, 118), [], [])])
/-- by hand: J0_charAt_5068e -/
noncomputable def ct_23 : Ctr := ([(4, 29, 0), (0, 0, 5)], [], [], [], [((0, 0), (0, 97, 121), [], [])])
noncomputable def ct_24 : Ctr := ([(1, 446, 0), (4, 29, 0)], [], [], [], [((0, 0), (0, 0, 1), [], [])])
noncomputable def md_24 : MDT := (3, nb_X7_wordIs, [(4, ([(2, 0, 6)], [], [], [], false, true, []))])
theorem hc_24 : xctr kd0 sh0 rt0 bd0 un0 PR0 MT0 (ctL [(338, ct_21), (339, ct_22), (339, ct_23)]) 8 md_24 ct_24 = true := by decide +kernel
/-- by hand: J0_length_8abf5 -/
noncomputable def ct_25 : Ctr := ([(4, 30, 0)], [], [], [], [((0, 0), (0, 6, 6), [], [])])
/-- by hand: J0_charAt_5068e -/
noncomputable def ct_26 : Ctr := ([(4, 30, 0), (0, 0, 0)], [], [], [], [((0, 0), (0, 116, 116), [], [])])
/-- by hand: J0_charAt_5068e -/
noncomputable def ct_27 : Ctr := ([(4, 30, 0), (0, 0, 5)], [], [], [], [((0, 0), (0, 100, 116), [], [])])
noncomputable def ct_28 : Ctr := ([(1, 446, 0), (4, 30, 0)], [], [], [], [((0, 0), (0, 0, 1), [], [])])
noncomputable def md_28 : MDT := (3, nb_X7_wordIs, [(4, ([(2, 0, 6)], [], [], [], false, true, []))])
theorem hc_28 : xctr kd0 sh0 rt0 bd0 un0 PR0 MT0 (ctL [(338, ct_25), (339, ct_26), (339, ct_27)]) 8 md_28 ct_28 = true := by decide +kernel
noncomputable def ct_29 : Ctr := ([(1, 1, 0), (0, (-2147483648), 2147483647), (0, (-2147483648), 2147483647)], [], [], [], [((0, 0), (5, 0, 0), [], [])])
noncomputable def md_29 : MDT := (7, nb_X0_nameAt, [(4, ([(5, 0, 6)], [], [], [], false, true, [3]))])
theorem hc_29 : xctr kd0 sh0 rt0 bd0 un0 PR0 MT0 (ctL []) 8 md_29 ct_29 = true := by decide +kernel
noncomputable def ct_30 : Ctr := ([(2, 4, 0), (3, 0, 0)], [], [], [], [((0, 0), (0, (-1), 7), [], [])])
noncomputable def md_30 : MDT := (4, nb_X9_valleyNamed, [(1, ([(3, 0, 8)], [], [], [], false, true, []))])
theorem hc_30 : xctr kd0 sh0 rt0 bd0 un0 PR0 MT0 (ctL []) 8 md_30 ct_30 = true := by decide +kernel
noncomputable def ct_31 : Ctr := ([(1, 446, 0), (2, 4, 0)], [(((.inl 446, (0, 0, 1)) : RK × Aff), 0, 900)], [], [(10, 1, 7)], [((0, 0), (0, 0, 0), [(((.inl 446, (0, 0, 2)) : RK × Aff), 0, 5), (((.inl 446, (0, 0, 4)) : RK × Aff), (-900), 900), (((.inl 446, (0, 0, 6)) : RK × Aff), 1, 3), (((.inl 446, (0, 0, 7)) : RK × Aff), 0, 900)], []), ((0, 0), (0, 1, 1), [(((.inl 446, (0, 0, 2)) : RK × Aff), 1, 1), (((.inl 446, (0, 0, 4)) : RK × Aff), (-900), 6), (((.inl 446, (0, 0, 5)) : RK × Aff), 0, 7)], [])])
noncomputable def md_31 : MDT := (2, nb_X7_takeValley, [])
theorem hc_31 : xctr kd0 sh0 rt0 bd0 un0 PR0 MT0 (ctL [(48, ct_2), (5, ct_29), (72, ct_30)]) 8 md_31 ct_31 = true := by decide +kernel
noncomputable def ct_32 : Ctr := ([(2, 4, 0), (3, 0, 0)], [], [], [], [((0, 0), (0, (-1), 11), [], [])])
noncomputable def md_32 : MDT := (4, nb_X9_echoNamed, [(1, ([(3, 0, 12)], [], [], [], false, true, []))])
theorem hc_32 : xctr kd0 sh0 rt0 bd0 un0 PR0 MT0 (ctL []) 8 md_32 ct_32 = true := by decide +kernel
noncomputable def ct_33 : Ctr := ([(1, 446, 0), (2, 4, 0)], [(((.inl 446, (0, 0, 1)) : RK × Aff), 0, 900)], [], [(10, 1, 7)], [((0, 0), (0, 0, 0), [(((.inl 446, (0, 0, 2)) : RK × Aff), 0, 5), (((.inl 446, (0, 0, 4)) : RK × Aff), (-900), 900), (((.inl 446, (0, 0, 6)) : RK × Aff), 1, 3), (((.inl 446, (0, 0, 7)) : RK × Aff), 0, 900)], []), ((0, 0), (0, 1, 1), [(((.inl 446, (0, 0, 2)) : RK × Aff), 1, 1), (((.inl 446, (0, 0, 4)) : RK × Aff), (-900), 6), (((.inl 446, (0, 0, 5)) : RK × Aff), 0, 11)], [])])
noncomputable def md_33 : MDT := (2, nb_X7_takeEcho, [])
theorem hc_33 : xctr kd0 sh0 rt0 bd0 un0 PR0 MT0 (ctL [(48, ct_2), (5, ct_29), (71, ct_32)]) 8 md_33 ct_33 = true := by decide +kernel
noncomputable def ct_34 : Ctr := ([(1, 447, 0)], [(((.inl 446, (0, 0, 1)) : RK × Aff), 0, 900)], [], [(6, 7, 7), (10, 1, 7)], [((0, 0), (0, 0, 0), [(((.inl 446, (0, 0, 2)) : RK × Aff), 0, 5), (((.inl 446, (0, 0, 4)) : RK × Aff), (-900), 900), (((.inl 446, (0, 0, 6)) : RK × Aff), 1, 3), (((.inl 446, (0, 0, 7)) : RK × Aff), 0, 900)], []), ((0, 0), (0, 1, 1), [(((.inl 446, (0, 0, 2)) : RK × Aff), 3, 3), (((.inl 446, (0, 0, 4)) : RK × Aff), (-900), 900)], [])])
noncomputable def md_34 : MDT := (2, nb_X2_takeTest, [])
theorem hc_34 : xctr kd0 sh0 rt0 bd0 un0 PR0 MT0 (ctL [(52, ct_9), (58, ct_31), (57, ct_33)]) 8 md_34 ct_34 = true := by decide +kernel
noncomputable def ct_35 : Ctr := ([(1, 446, 0)], [(((.inl 446, (0, 0, 1)) : RK × Aff), 0, 900)], [], [(10, 1, 7)], [((0, 0), (0, 1, 1), [(((.inl 446, (0, 0, 2)) : RK × Aff), 1, 1), (((.inl 446, (0, 0, 4)) : RK × Aff), (-900), 6)], []), ((0, 0), (0, 0, 0), [(((.inl 446, (0, 0, 2)) : RK × Aff), 0, 5), (((.inl 446, (0, 0, 4)) : RK × Aff), (-900), 900), (((.inl 446, (0, 0, 6)) : RK × Aff), 1, 1), (((.inl 446, (0, 0, 7)) : RK × Aff), 0, 900)], [])])
noncomputable def md_35 : MDT := (1, nb_X7_takeName, [])
theorem hc_35 : xctr kd0 sh0 rt0 bd0 un0 PR0 MT0 (ctL [(48, ct_2)]) 8 md_35 ct_35 = true := by decide +kernel
