/-! the contracts of the law's own helpers -/
noncomputable def cl_345 : Ctr := ([(1, 0, 0), (0, (-2147483648), 2147483647), (0, (-2147483648), 2147483647), (0, (-2147483648), 2147483647), (0, (-2147483648), 2147483647), (0, (-2147483648), 2147483647), (1, 465, 0)], [], [], (43, 0, 0) :: ct_0.2.2.2.1, [((0, 0), (0, (-2147483648), 2147483647), [], [])])
theorem hl_345 : xctr kd0 sh0 rt0 bd0 un0 PR0 MT0 (ctL [(99, ct_0)]) 2 (8, nb_L_append, []) cl_345 = true := by decide +kernel
theorem kl_345 {Ev : Env9} : CK Ev 130 (345, cl_345) := CK_up (xctr_ok hu0 hang_0 hR9 hMT9 (b := 9) (ctL_ok (l := [(99, ct_0)]) (And.intro cc_0 trivial)) (mo_L_append rfl _) hl_345) (by decide)
noncomputable def cl_346 : Ctr := ([(1, 0, 0), (0, (-2147483648), 2147483647), (1, 465, 0)], [], [], (43, 0, 0) :: ct_1.2.2.2.1, [((0, 0), (0, (-2147483648), 2147483647), [], [])])
theorem hl_346 : xctr kd0 sh0 rt0 bd0 un0 PR0 MT0 (ctL [(100, ct_1)]) 2 (4, nb_L_truncate, []) cl_346 = true := by decide +kernel
theorem kl_346 {Ev : Env9} : CK Ev 130 (346, cl_346) := CK_up (xctr_ok hu0 hang_0 hR9 hMT9 (b := 9) (ctL_ok (l := [(100, ct_1)]) (And.intro cc_1 trivial)) (mo_L_truncate rfl _) hl_346) (by decide)
noncomputable def cl_347 : Ctr := ([(1, 0, 0), (1, 465, 0)], [], [], (43, 0, 0) :: ct_47.2.2.2.1, [((0, 0), (0, (-2147483648), 2147483647), [f8 1 1 0 0], [])])
theorem hl_347 : xctr kd0 sh0 rt0 bd0 un0 PR0 MT0 (ctL [(101, ct_47)]) 2 (3, nb_L_load, []) cl_347 = true := by decide +kernel
theorem kl_347 {Ev : Env9} : CK Ev 130 (347, cl_347) := CK_up (xctr_ok hu0 hang_0 hR9 hMT9 (b := 54) (ctL_ok (l := [(101, ct_47)]) (And.intro cc_47 trivial)) (mo_L_load rfl _) hl_347) (by decide)
noncomputable def cl_348 : Ctr := ([(1, 0, 0), (1, 465, 0)], [], [], (43, 0, 0) :: ctX.2.2.2.1, [((0, 0), (0, (-2147483648), 2147483647), [f8 1 1 0 0], [])])
theorem hl_348 : xctr kd0 sh0 rt0 bd0 un0 PR0 MT0 (ctL [(102, ctX)]) 2 (3, nb_L_executeCommands, []) cl_348 = true := by decide +kernel
theorem kl_348 {Ev : Env9} : CK Ev 130 (348, cl_348) := CK_up (xctr_ok hu0 hang_0 hR9 hMT9 (b := 120) (ctL_ok (l := [(102, ctX)]) (And.intro f_exec trivial)) (mo_L_executeCommands rfl _) hl_348) (by decide)
noncomputable def cl_349 : Ctr := ([(1, 0, 0), (0, (-2147483648), 2147483647), (1, 465, 0)], [], [], (43, 0, 0) :: ct_55.2.2.2.1, [((0, 0), (0, (-2147483648), 2147483647), [], [])])
theorem hl_349 : xctr kd0 sh0 rt0 bd0 un0 PR0 MT0 (ctL [(109, ct_55)]) 2 (4, nb_L_fogOf, []) cl_349 = true := by decide +kernel
theorem kl_349 {Ev : Env9} : CK Ev 130 (349, cl_349) := CK_up (xctr_ok hu0 hang_0 hR9 hMT9 (b := 10) (ctL_ok (l := [(109, ct_55)]) (And.intro cc_55 trivial)) (mo_L_fogOf rfl _) hl_349) (by decide)
noncomputable def cl_350 : Ctr := ([(1, 0, 0), (0, (-2147483648), 2147483647), (1, 465, 0)], [], [], (43, 0, 0) :: ct_58.2.2.2.1, [((0, 0), (0, (-2147483648), 2147483647), [], [])])
theorem hl_350 : xctr kd0 sh0 rt0 bd0 un0 PR0 MT0 (ctL [(112, ct_58)]) 2 (4, nb_L_delayOf, []) cl_350 = true := by decide +kernel
theorem kl_350 {Ev : Env9} : CK Ev 130 (350, cl_350) := CK_up (xctr_ok hu0 hang_0 hR9 hMT9 (b := 9) (ctL_ok (l := [(112, ct_58)]) (And.intro cc_58 trivial)) (mo_L_delayOf rfl _) hl_350) (by decide)
noncomputable def cl_351 : Ctr := ([(1, 0, 0), (0, (-2147483648), 2147483647), (1, 465, 0)], [], [], (43, 0, 0) :: ct_59.2.2.2.1, [((0, 0), (0, (-2147483648), 2147483647), [], [])])
theorem hl_351 : xctr kd0 sh0 rt0 bd0 un0 PR0 MT0 (ctL [(113, ct_59)]) 2 (4, nb_L_repeatsOf, []) cl_351 = true := by decide +kernel
theorem kl_351 {Ev : Env9} : CK Ev 130 (351, cl_351) := CK_up (xctr_ok hu0 hang_0 hR9 hMT9 (b := 9) (ctL_ok (l := [(113, ct_59)]) (And.intro cc_59 trivial)) (mo_L_repeatsOf rfl _) hl_351) (by decide)
noncomputable def cl_352 : Ctr := ([(1, 0, 0), (0, (-2147483648), 2147483647), (1, 465, 0)], [], [], (43, 0, 0) :: ct_60.2.2.2.1, [((0, 0), (0, (-2147483648), 2147483647), [], [])])
theorem hl_352 : xctr kd0 sh0 rt0 bd0 un0 PR0 MT0 (ctL [(114, ct_60)]) 2 (4, nb_L_reserveWage, []) cl_352 = true := by decide +kernel
theorem kl_352 {Ev : Env9} : CK Ev 130 (352, cl_352) := CK_up (xctr_ok hu0 hang_0 hR9 hMT9 (b := 9) (ctL_ok (l := [(114, ct_60)]) (And.intro cc_60 trivial)) (mo_L_reserveWage rfl _) hl_352) (by decide)
noncomputable def cl_353 : Ctr := ([(1, 0, 0), (0, (-2147483648), 2147483647), (1, 465, 0)], [], [], (43, 0, 0) :: ct_61.2.2.2.1, [((0, 0), (0, (-2147483648), 2147483647), [], [])])
theorem hl_353 : xctr kd0 sh0 rt0 bd0 un0 PR0 MT0 (ctL [(115, ct_61)]) 2 (4, nb_L_resistanceOf, []) cl_353 = true := by decide +kernel
theorem kl_353 {Ev : Env9} : CK Ev 130 (353, cl_353) := CK_up (xctr_ok hu0 hang_0 hR9 hMT9 (b := 9) (ctL_ok (l := [(115, ct_61)]) (And.intro cc_61 trivial)) (mo_L_resistanceOf rfl _) hl_353) (by decide)
noncomputable def cl_354 : Ctr := ([(1, 0, 0), (0, (-2147483648), 2147483647), (1, 465, 0)], [], [], (43, 0, 0) :: ct_62.2.2.2.1, [((0, 0), (0, (-2147483648), 2147483647), [], [])])
theorem hl_354 : xctr kd0 sh0 rt0 bd0 un0 PR0 MT0 (ctL [(116, ct_62)]) 2 (4, nb_L_savingsOf, []) cl_354 = true := by decide +kernel
theorem kl_354 {Ev : Env9} : CK Ev 130 (354, cl_354) := CK_up (xctr_ok hu0 hang_0 hR9 hMT9 (b := 9) (ctL_ok (l := [(116, ct_62)]) (And.intro cc_62 trivial)) (mo_L_savingsOf rfl _) hl_354) (by decide)
noncomputable def cl_355 : Ctr := ([(1, 0, 0), (0, (-2147483648), 2147483647), (1, 465, 0)], [], [], (43, 0, 0) :: ct_63.2.2.2.1, [((0, 0), (0, (-2147483648), 2147483647), [], [])])
theorem hl_355 : xctr kd0 sh0 rt0 bd0 un0 PR0 MT0 (ctL [(117, ct_63)]) 2 (4, nb_L_unpaidDays, []) cl_355 = true := by decide +kernel
theorem kl_355 {Ev : Env9} : CK Ev 130 (355, cl_355) := CK_up (xctr_ok hu0 hang_0 hR9 hMT9 (b := 9) (ctL_ok (l := [(117, ct_63)]) (And.intro cc_63 trivial)) (mo_L_unpaidDays rfl _) hl_355) (by decide)
noncomputable def cl_356 : Ctr := ([(1, 0, 0), (0, (-2147483648), 2147483647), (1, 465, 0)], [], [], (43, 0, 0) :: ct_64.2.2.2.1, [((0, 0), (0, (-2147483648), 2147483647), [], [])])
theorem hl_356 : xctr kd0 sh0 rt0 bd0 un0 PR0 MT0 (ctL [(118, ct_64)]) 2 (4, nb_L_employerOf, []) cl_356 = true := by decide +kernel
theorem kl_356 {Ev : Env9} : CK Ev 130 (356, cl_356) := CK_up (xctr_ok hu0 hang_0 hR9 hMT9 (b := 9) (ctL_ok (l := [(118, ct_64)]) (And.intro cc_64 trivial)) (mo_L_employerOf rfl _) hl_356) (by decide)
noncomputable def cl_357 : Ctr := ([(1, 0, 0), (0, (-2147483648), 2147483647), (1, 465, 0)], [], [], (43, 0, 0) :: ct_65.2.2.2.1, [((0, 0), (0, (-2147483648), 2147483647), [], [])])
theorem hl_357 : xctr kd0 sh0 rt0 bd0 un0 PR0 MT0 (ctL [(119, ct_65)]) 2 (4, nb_L_widthOf, []) cl_357 = true := by decide +kernel
theorem kl_357 {Ev : Env9} : CK Ev 130 (357, cl_357) := CK_up (xctr_ok hu0 hang_0 hR9 hMT9 (b := 9) (ctL_ok (l := [(119, ct_65)]) (And.intro cc_65 trivial)) (mo_L_widthOf rfl _) hl_357) (by decide)
noncomputable def cl_358 : Ctr := ([(1, 0, 0), (0, (-2147483648), 2147483647), (1, 465, 0)], [], [], (43, 0, 0) :: ct_66.2.2.2.1, [((0, 0), (0, (-2147483648), 2147483647), [], [])])
theorem hl_358 : xctr kd0 sh0 rt0 bd0 un0 PR0 MT0 (ctL [(120, ct_66)]) 2 (4, nb_L_postsOf, []) cl_358 = true := by decide +kernel
theorem kl_358 {Ev : Env9} : CK Ev 130 (358, cl_358) := CK_up (xctr_ok hu0 hang_0 hR9 hMT9 (b := 9) (ctL_ok (l := [(120, ct_66)]) (And.intro cc_66 trivial)) (mo_L_postsOf rfl _) hl_358) (by decide)
noncomputable def cl_359 : Ctr := ([(1, 0, 0), (0, (-2147483648), 2147483647), (1, 465, 0)], [], [], (43, 0, 0) :: ct_67.2.2.2.1, [((0, 0), (0, (-2147483648), 2147483647), [], [])])
theorem hl_359 : xctr kd0 sh0 rt0 bd0 un0 PR0 MT0 (ctL [(121, ct_67)]) 2 (4, nb_L_wageOf, []) cl_359 = true := by decide +kernel
theorem kl_359 {Ev : Env9} : CK Ev 130 (359, cl_359) := CK_up (xctr_ok hu0 hang_0 hR9 hMT9 (b := 9) (ctL_ok (l := [(121, ct_67)]) (And.intro cc_67 trivial)) (mo_L_wageOf rfl _) hl_359) (by decide)
noncomputable def cl_360 : Ctr := ([(1, 0, 0), (0, (-2147483648), 2147483647), (1, 465, 0)], [], [], (43, 0, 0) :: ct_68.2.2.2.1, [((0, 0), (0, (-2147483648), 2147483647), [], [])])
theorem hl_360 : xctr kd0 sh0 rt0 bd0 un0 PR0 MT0 (ctL [(122, ct_68)]) 2 (4, nb_L_purseOf, []) cl_360 = true := by decide +kernel
theorem kl_360 {Ev : Env9} : CK Ev 130 (360, cl_360) := CK_up (xctr_ok hu0 hang_0 hR9 hMT9 (b := 9) (ctL_ok (l := [(122, ct_68)]) (And.intro cc_68 trivial)) (mo_L_purseOf rfl _) hl_360) (by decide)
noncomputable def cl_361 : Ctr := ([(1, 0, 0), (0, (-2147483648), 2147483647), (1, 465, 0)], [], [], (43, 0, 0) :: ct_69.2.2.2.1, [((0, 0), (0, (-2147483648), 2147483647), [], [])])
theorem hl_361 : xctr kd0 sh0 rt0 bd0 un0 PR0 MT0 (ctL [(123, ct_69)]) 2 (4, nb_L_staffCount, []) cl_361 = true := by decide +kernel
theorem kl_361 {Ev : Env9} : CK Ev 130 (361, cl_361) := CK_up (xctr_ok hu0 hang_0 hR9 hMT9 (b := 9) (ctL_ok (l := [(123, ct_69)]) (And.intro cc_69 trivial)) (mo_L_staffCount rfl _) hl_361) (by decide)
noncomputable def cl_362 : Ctr := ([(1, 0, 0), (0, (-2147483648), 2147483647), (0, (-2147483648), 2147483647), (1, 465, 0)], [], [], (43, 0, 0) :: ct_70.2.2.2.1, [((0, 0), (0, (-2147483648), 2147483647), [], [])])
theorem hl_362 : xctr kd0 sh0 rt0 bd0 un0 PR0 MT0 (ctL [(124, ct_70)]) 2 (5, nb_L_staffMember, []) cl_362 = true := by decide +kernel
theorem kl_362 {Ev : Env9} : CK Ev 130 (362, cl_362) := CK_up (xctr_ok hu0 hang_0 hR9 hMT9 (b := 9) (ctL_ok (l := [(124, ct_70)]) (And.intro cc_70 trivial)) (mo_L_staffMember rfl _) hl_362) (by decide)
noncomputable def cl_363 : Ctr := ([(1, 0, 0), (0, (-2147483648), 2147483647), (0, (-2147483648), 2147483647), (1, 465, 0)], [], [], (43, 0, 0) :: ct_71.2.2.2.1, [((0, 0), (0, (-2147483648), 2147483647), [], [])])
theorem hl_363 : xctr kd0 sh0 rt0 bd0 un0 PR0 MT0 (ctL [(125, ct_71)]) 2 (5, nb_L_isTested, []) cl_363 = true := by decide +kernel
theorem kl_363 {Ev : Env9} : CK Ev 130 (363, cl_363) := CK_up (xctr_ok hu0 hang_0 hR9 hMT9 (b := 9) (ctL_ok (l := [(125, ct_71)]) (And.intro cc_71 trivial)) (mo_L_isTested rfl _) hl_363) (by decide)
noncomputable def cl_364 : Ctr := ([(1, 0, 0), (0, (-2147483648), 2147483647), (0, (-2147483648), 2147483647), (1, 465, 0)], [], [], (43, 0, 0) :: ct_74.2.2.2.1, [((0, 0), (0, (-2147483648), 2147483647), [], [])])
theorem hl_364 : xctr kd0 sh0 rt0 bd0 un0 PR0 MT0 (ctL [(126, ct_74)]) 2 (5, nb_L_seenScore, []) cl_364 = true := by decide +kernel
theorem kl_364 {Ev : Env9} : CK Ev 130 (364, cl_364) := CK_up (xctr_ok hu0 hang_0 hR9 hMT9 (b := 27) (ctL_ok (l := [(126, ct_74)]) (And.intro cc_74 trivial)) (mo_L_seenScore rfl _) hl_364) (by decide)
noncomputable def cl_365 : Ctr := ([(1, 0, 0), (0, (-2147483648), 2147483647), (0, (-2147483648), 2147483647), (1, 465, 0)], [], [], (43, 0, 0) :: ct_75.2.2.2.1, [((0, 0), (0, (-2147483648), 2147483647), [], [])])
theorem hl_365 : xctr kd0 sh0 rt0 bd0 un0 PR0 MT0 (ctL [(127, ct_75)]) 2 (5, nb_L_pairReason, []) cl_365 = true := by decide +kernel
theorem kl_365 {Ev : Env9} : CK Ev 130 (365, cl_365) := CK_up (xctr_ok hu0 hang_0 hR9 hMT9 (b := 27) (ctL_ok (l := [(127, ct_75)]) (And.intro cc_75 trivial)) (mo_L_pairReason rfl _) hl_365) (by decide)
noncomputable def cl_366 : Ctr := ([(1, 0, 0), (0, (-2147483648), 2147483647), (0, (-2147483648), 2147483647), (1, 465, 0)], [], [], (43, 0, 0) :: ct_79.2.2.2.1, [((0, 0), (0, (-2147483648), 2147483647), [], [])])
theorem hl_366 : xctr kd0 sh0 rt0 bd0 un0 PR0 MT0 (ctL [(128, ct_79)]) 2 (5, nb_L_preferredValley, []) cl_366 = true := by decide +kernel
theorem kl_366 {Ev : Env9} : CK Ev 130 (366, cl_366) := CK_up (xctr_ok hu0 hang_0 hR9 hMT9 (b := 45) (ctL_ok (l := [(128, ct_79)]) (And.intro cc_79 trivial)) (mo_L_preferredValley rfl _) hl_366) (by decide)
noncomputable def cl_367 : Ctr := ([(1, 0, 0), (0, (-2147483648), 2147483647), (0, (-2147483648), 2147483647), (1, 465, 0)], [], [], (43, 0, 0) :: ct_82.2.2.2.1, [((0, 0), (0, (-2147483648), 2147483647), [], [])])
theorem hl_367 : xctr kd0 sh0 rt0 bd0 un0 PR0 MT0 (ctL [(129, ct_82)]) 2 (5, nb_L_preferredEcho, []) cl_367 = true := by decide +kernel
theorem kl_367 {Ev : Env9} : CK Ev 130 (367, cl_367) := CK_up (xctr_ok hu0 hang_0 hR9 hMT9 (b := 45) (ctL_ok (l := [(129, ct_82)]) (And.intro cc_82 trivial)) (mo_L_preferredEcho rfl _) hl_367) (by decide)
noncomputable def cl_368 : Ctr := ([(1, 0, 0), (0, (-2147483648), 2147483647), (1, 465, 0)], [], [], (43, 0, 0) :: ct_96.2.2.2.1, [((0, 0), (0, (-2147483648), 2147483647), [], [])])
theorem hl_368 : xctr kd0 sh0 rt0 bd0 un0 PR0 MT0 (ctL [(131, ct_96)]) 2 (4, nb_L_fairResult, []) cl_368 = true := by decide +kernel
theorem kl_368 {Ev : Env9} : CK Ev 130 (368, cl_368) := CK_up (xctr_ok hu0 hang_0 hR9 hMT9 (b := 45) (ctL_ok (l := [(131, ct_96)]) (And.intro cc_96 trivial)) (mo_L_fairResult rfl _) hl_368) (by decide)
noncomputable def cl_369 : Ctr := ([(1, 0, 0), (0, (-2147483648), 2147483647), (0, (-2147483648), 2147483647), (1, 465, 0)], [], [], (43, 0, 0) :: ct_104.2.2.2.1, [((0, 0), (0, (-2147483648), 2147483647), [], [])])
theorem hl_369 : xctr kd0 sh0 rt0 bd0 un0 PR0 MT0 (ctL [(132, ct_104)]) 2 (5, nb_L_savingsAfter, []) cl_369 = true := by decide +kernel
theorem kl_369 {Ev : Env9} : CK Ev 130 (369, cl_369) := CK_up (xctr_ok hu0 hang_0 hR9 hMT9 (b := 54) (ctL_ok (l := [(132, ct_104)]) (And.intro cc_104 trivial)) (mo_L_savingsAfter rfl _) hl_369) (by decide)
noncomputable def cl_370 : Ctr := ([(1, 0, 0), (0, (-2147483648), 2147483647), (0, (-2147483648), 2147483647), (1, 465, 0)], [], [], (43, 0, 0) :: ct_105.2.2.2.1, [((0, 0), (0, (-2147483648), 2147483647), [], [])])
theorem hl_370 : xctr kd0 sh0 rt0 bd0 un0 PR0 MT0 (ctL [(133, ct_105)]) 2 (5, nb_L_purseAfter, []) cl_370 = true := by decide +kernel
theorem kl_370 {Ev : Env9} : CK Ev 130 (370, cl_370) := CK_up (xctr_ok hu0 hang_0 hR9 hMT9 (b := 54) (ctL_ok (l := [(133, ct_105)]) (And.intro cc_105 trivial)) (mo_L_purseAfter rfl _) hl_370) (by decide)
noncomputable def cl_371 : Ctr := ([(1, 0, 0), (0, (-2147483648), 2147483647), (1, 465, 0)], [], [], (43, 0, 0) :: ct_106.2.2.2.1, [((0, 0), (0, (-2147483648), 2147483647), [], [])])
theorem hl_371 : xctr kd0 sh0 rt0 bd0 un0 PR0 MT0 (ctL [(134, ct_106)]) 2 (4, nb_L_desertsIn, []) cl_371 = true := by decide +kernel
theorem kl_371 {Ev : Env9} : CK Ev 130 (371, cl_371) := CK_up (xctr_ok hu0 hang_0 hR9 hMT9 (b := 54) (ctL_ok (l := [(134, ct_106)]) (And.intro cc_106 trivial)) (mo_L_desertsIn rfl _) hl_371) (by decide)
noncomputable def cl_372 : Ctr := ([(1, 0, 0), (0, (-2147483648), 2147483647), (0, (-2147483648), 2147483647), (1, 465, 0)], [], [], (43, 0, 0) :: ct_107.2.2.2.1, [((0, 0), (0, (-2147483648), 2147483647), [], [])])
theorem hl_372 : xctr kd0 sh0 rt0 bd0 un0 PR0 MT0 (ctL [(135, ct_107)]) 2 (5, nb_L_leastWage, []) cl_372 = true := by decide +kernel
theorem kl_372 {Ev : Env9} : CK Ev 130 (372, cl_372) := CK_up (xctr_ok hu0 hang_0 hR9 hMT9 (b := 45) (ctL_ok (l := [(135, ct_107)]) (And.intro cc_107 trivial)) (mo_L_leastWage rfl _) hl_372) (by decide)
noncomputable def cl_373 : Ctr := ([(1, 0, 0), (0, (-2147483648), 2147483647), (1, 465, 0)], [], [], (43, 0, 0) :: ct_109.2.2.2.1, [((0, 0), (0, (-2147483648), 2147483647), [], [])])
theorem hl_373 : xctr kd0 sh0 rt0 bd0 un0 PR0 MT0 (ctL [(136, ct_109)]) 2 (4, nb_L_bestTest, []) cl_373 = true := by decide +kernel
theorem kl_373 {Ev : Env9} : CK Ev 130 (373, cl_373) := CK_up (xctr_ok hu0 hang_0 hR9 hMT9 (b := 18) (ctL_ok (l := [(136, ct_109)]) (And.intro cc_109 trivial)) (mo_L_bestTest rfl _) hl_373) (by decide)
noncomputable def cl_374 : Ctr := ([(1, 0, 0), (0, (-2147483648), 2147483647), (0, (-2147483648), 2147483647), (1, 465, 0)], [], [], (43, 0, 0) :: ct_111.2.2.2.1, [((0, 0), (0, (-2147483648), 2147483647), [], [])])
theorem hl_374 : xctr kd0 sh0 rt0 bd0 un0 PR0 MT0 (ctL [(138, ct_111)]) 2 (5, nb_L_daysServed, []) cl_374 = true := by decide +kernel
theorem kl_374 {Ev : Env9} : CK Ev 130 (374, cl_374) := CK_up (xctr_ok hu0 hang_0 hR9 hMT9 (b := 9) (ctL_ok (l := [(138, ct_111)]) (And.intro cc_111 trivial)) (mo_L_daysServed rfl _) hl_374) (by decide)
noncomputable def cl_375 : Ctr := ([(1, 0, 0), (0, (-2147483648), 2147483647), (1, 465, 0)], [], [], (43, 0, 0) :: ct_114.2.2.2.1, [((0, 0), (0, (-2147483648), 2147483647), [], [])])
theorem hl_375 : xctr kd0 sh0 rt0 bd0 un0 PR0 MT0 (ctL [(141, ct_114)]) 2 (4, nb_L_desertions, []) cl_375 = true := by decide +kernel
theorem kl_375 {Ev : Env9} : CK Ev 130 (375, cl_375) := CK_up (xctr_ok hu0 hang_0 hR9 hMT9 (b := 9) (ctL_ok (l := [(141, ct_114)]) (And.intro cc_114 trivial)) (mo_L_desertions rfl _) hl_375) (by decide)
noncomputable def cl_376 : Ctr := ([(1, 0, 0), (0, (-2147483648), 2147483647), (1, 465, 0)], [], [], (43, 0, 0) :: ct_115.2.2.2.1, [((0, 0), (0, (-2147483648), 2147483647), [], [])])
theorem hl_376 : xctr kd0 sh0 rt0 bd0 un0 PR0 MT0 (ctL [(142, ct_115)]) 2 (4, nb_L_repliesHeard, []) cl_376 = true := by decide +kernel
theorem kl_376 {Ev : Env9} : CK Ev 130 (376, cl_376) := CK_up (xctr_ok hu0 hang_0 hR9 hMT9 (b := 9) (ctL_ok (l := [(142, ct_115)]) (And.intro cc_115 trivial)) (mo_L_repliesHeard rfl _) hl_376) (by decide)
noncomputable def cl_377 : Ctr := ([(1, 0, 0), (0, (-2147483648), 2147483647), (1, 465, 0)], [], [], (43, 0, 0) :: ct_116.2.2.2.1, [((0, 0), (0, (-2147483648), 2147483647), [], [])])
theorem hl_377 : xctr kd0 sh0 rt0 bd0 un0 PR0 MT0 (ctL [(143, ct_116)]) 2 (4, nb_L_wagesPaid, []) cl_377 = true := by decide +kernel
theorem kl_377 {Ev : Env9} : CK Ev 130 (377, cl_377) := CK_up (xctr_ok hu0 hang_0 hR9 hMT9 (b := 9) (ctL_ok (l := [(143, ct_116)]) (And.intro cc_116 trivial)) (mo_L_wagesPaid rfl _) hl_377) (by decide)
noncomputable def cl_378 : Ctr := ([(1, 0, 0), (0, (-2147483648), 2147483647), (1, 465, 0)], [], [], (43, 0, 0) :: ct_127.2.2.2.1, [((0, 0), (0, (-2147483648), 2147483647), [], [])])
theorem hl_378 : xctr kd0 sh0 rt0 bd0 un0 PR0 MT0 (ctL [(149, ct_127)]) 2 (4, nb_L_passDays, []) cl_378 = true := by decide +kernel
theorem kl_378 {Ev : Env9} : CK Ev 130 (378, cl_378) := CK_up (xctr_ok hu0 hang_0 hR9 hMT9 (b := 54) (ctL_ok (l := [(149, ct_127)]) (And.intro cc_127 trivial)) (mo_L_passDays rfl _) hl_378) (by decide)
noncomputable def cl_379 : Ctr := ([(1, 0, 0), (0, (-2147483648), 2147483647), (0, (-2147483648), 2147483647), (1, 465, 0)], [], [], (43, 0, 0) :: ct_129.2.2.2.1, [((0, 0), (0, (-2147483648), 2147483647), [], [])])
theorem hl_379 : xctr kd0 sh0 rt0 bd0 un0 PR0 MT0 (ctL [(151, ct_129)]) 2 (5, nb_L_test, []) cl_379 = true := by decide +kernel
theorem kl_379 {Ev : Env9} : CK Ev 130 (379, cl_379) := CK_up (xctr_ok hu0 hang_0 hR9 hMT9 (b := 27) (ctL_ok (l := [(151, ct_129)]) (And.intro cc_129 trivial)) (mo_L_test rfl _) hl_379) (by decide)
noncomputable def cl_380 : Ctr := ([(1, 0, 0), (0, (-2147483648), 2147483647), (1, 465, 0)], [], [], (43, 0, 0) :: ct_130.2.2.2.1, [((0, 0), (0, (-2147483648), 2147483647), [], [])])
theorem hl_380 : xctr kd0 sh0 rt0 bd0 un0 PR0 MT0 (ctL [(152, ct_130)]) 2 (4, nb_L_dismiss, []) cl_380 = true := by decide +kernel
theorem kl_380 {Ev : Env9} : CK Ev 130 (380, cl_380) := CK_up (xctr_ok hu0 hang_0 hR9 hMT9 (b := 27) (ctL_ok (l := [(152, ct_130)]) (And.intro cc_130 trivial)) (mo_L_dismiss rfl _) hl_380) (by decide)
noncomputable def cl_381 : Ctr := ([(1, 0, 0), (0, (-2147483648), 2147483647), (0, (-2147483648), 2147483647), (1, 465, 0)], [], [], (43, 0, 0) :: ct_131.2.2.2.1, [((0, 0), (0, (-2147483648), 2147483647), [], [])])
theorem hl_381 : xctr kd0 sh0 rt0 bd0 un0 PR0 MT0 (ctL [(153, ct_131)]) 2 (5, nb_L_setWage, []) cl_381 = true := by decide +kernel
theorem kl_381 {Ev : Env9} : CK Ev 130 (381, cl_381) := CK_up (xctr_ok hu0 hang_0 hR9 hMT9 (b := 27) (ctL_ok (l := [(153, ct_131)]) (And.intro cc_131 trivial)) (mo_L_setWage rfl _) hl_381) (by decide)
noncomputable def cl_382 : Ctr := ([(1, 0, 0), (0, (-2147483648), 2147483647), (0, (-2147483648), 2147483647), (1, 465, 0)], [], [], (43, 0, 0) :: ct_132.2.2.2.1, [((0, 0), (0, (-2147483648), 2147483647), [], [])])
theorem hl_382 : xctr kd0 sh0 rt0 bd0 un0 PR0 MT0 (ctL [(154, ct_132)]) 2 (5, nb_L_fund, []) cl_382 = true := by decide +kernel
theorem kl_382 {Ev : Env9} : CK Ev 130 (382, cl_382) := CK_up (xctr_ok hu0 hang_0 hR9 hMT9 (b := 27) (ctL_ok (l := [(154, ct_132)]) (And.intro cc_132 trivial)) (mo_L_fund rfl _) hl_382) (by decide)
noncomputable def cl_383 : Ctr := ([(1, 0, 0), (0, (-2147483648), 2147483647), (1, 465, 0)], [], [], (43, 0, 0) :: ct_133.2.2.2.1, [((0, 0), (0, (-2147483648), 2147483647), [], [])])
theorem hl_383 : xctr kd0 sh0 rt0 bd0 un0 PR0 MT0 (ctL [(155, ct_133)]) 2 (4, nb_L_train, []) cl_383 = true := by decide +kernel
theorem kl_383 {Ev : Env9} : CK Ev 130 (383, cl_383) := CK_up (xctr_ok hu0 hang_0 hR9 hMT9 (b := 27) (ctL_ok (l := [(155, ct_133)]) (And.intro cc_133 trivial)) (mo_L_train rfl _) hl_383) (by decide)
noncomputable def cl_384 : Ctr := ([(1, 0, 0), (1, 465, 0)], [], [], (43, 0, 0) :: ct_135.2.2.2.1, [((0, 0), (0, (-2147483648), 2147483647), [], [])])
theorem hl_384 : xctr kd0 sh0 rt0 bd0 un0 PR0 MT0 (ctL [(156, ct_135)]) 2 (3, nb_L_undo, []) cl_384 = true := by decide +kernel
theorem kl_384 {Ev : Env9} : CK Ev 130 (384, cl_384) := CK_up (xctr_ok hu0 hang_0 hR9 hMT9 (b := 27) (ctL_ok (l := [(156, ct_135)]) (And.intro cc_135 trivial)) (mo_L_undo rfl _) hl_384) (by decide)
noncomputable def cl_385 : Ctr := ([(1, 0, 0), (1, 465, 0)], [], [], (43, 0, 0) :: ct_137.2.2.2.1, [((0, 0), (0, (-2147483648), 2147483647), [], [])])
theorem hl_385 : xctr kd0 sh0 rt0 bd0 un0 PR0 MT0 (ctL [(158, ct_137)]) 2 (3, nb_L_restore, []) cl_385 = true := by decide +kernel
theorem kl_385 {Ev : Env9} : CK Ev 130 (385, cl_385) := CK_up (xctr_ok hu0 hang_0 hR9 hMT9 (b := 18) (ctL_ok (l := [(158, ct_137)]) (And.intro cc_137 trivial)) (mo_L_restore rfl _) hl_385) (by decide)
