/-! the contracts, one out of the others -/
def allC (P : Nat × Ctr → Prop) : List (Nat × Ctr) → Prop
  | [] => True
  | a :: l => P a ∧ allC P l
theorem ctL_ok {Ev : Env9} {b : Nat} : ∀ {l : List (Nat × Ctr)}, allC (CK Ev b) l → ∀ y, ∀ ct ∈ ctL l y, ∀ k, b ≤ k → CtrOK kd0 sh0 rt0 bd0 Inv0 Ev (runM k) y ct := by
  intro l
  induction l with
  | nil => intro _ y ct h; cases h
  | cons a l ih =>
    intro hl y ct hm
    obtain ⟨h1, h2⟩ := hl
    have hm : ct ∈ (Bool.rec (ctL l y) (a.2 :: ctL l y) (Nat.beq a.1 y) : List Ctr) := hm
    cases hb : Nat.beq a.1 y with
    | false => rw [hb] at hm; exact ih h2 y ct hm
    | true =>
      rw [hb] at hm
      rcases List.mem_cons.mp hm with e | e
      · subst e
        intro k hk
        have := h1 k hk
        rwa [Nat.eq_of_beq_eq_true hb] at this
      · exact ih h2 y ct e
theorem cc_0 {Ev : Env9} : CK Ev 9 (99, ct_0) := xctr_ok hu0 hang_0 hR9 hMT9 (b := 0) (ctL_ok (l := []) trivial) (mo_X10_append rfl _) hc_0
theorem cc_1 {Ev : Env9} : CK Ev 9 (100, ct_1) := xctr_ok hu0 hang_0 hR9 hMT9 (b := 0) (ctL_ok (l := []) trivial) (mo_X10_truncate rfl _) hc_1
theorem cc_2 {Ev : Env9} : CK Ev 9 (48, ct_2) := xctr_ok hu0 hang_0 hR9 hMT9 (b := 0) (ctL_ok (l := []) trivial) (mo_X7_next rfl _) hc_2
theorem cc_6 {Ev : Env9} : CK Ev 14 (49, ct_6) := xctr_ok hu0 hang_0 hR9 hMT9 (b := 5) (ctL_ok (l := [(338, ct_3), (339, ct_4), (339, ct_5)]) (And.intro (CK_up hh_3 (by decide)) (And.intro (CK_up hh_4 (by decide)) (And.intro (CK_up hh_5 (by decide)) trivial)))) (mo_X7_wordIs rfl _) hc_6
theorem cc_7 {Ev : Env9} : CK Ev 23 (51, ct_7) := xctr_ok hu0 hang_0 hR9 hMT9 (b := 14) (ctL_ok (l := [(48, ct_2), (49, ct_6)]) (And.intro (CK_up cc_2 (by decide)) (And.intro (CK_up cc_6 (by decide)) trivial))) (mo_X7_takeWord rfl _) hc_7
theorem cc_8 {Ev : Env9} : CK Ev 18 (55, ct_8) := xctr_ok hu0 hang_0 hR9 hMT9 (b := 9) (ctL_ok (l := [(48, ct_2)]) (And.intro (CK_up cc_2 (by decide)) trivial)) (mo_X7_takeNumber rfl _) hc_8
theorem cc_9 {Ev : Env9} : CK Ev 18 (52, ct_9) := xctr_ok hu0 hang_0 hR9 hMT9 (b := 9) (ctL_ok (l := [(48, ct_2)]) (And.intro (CK_up cc_2 (by decide)) trivial)) (mo_X7_takeSemicolon rfl _) hc_9
theorem cc_10 {Ev : Env9} : CK Ev 32 (14, ct_10) := xctr_ok hu0 hang_0 hR9 hMT9 (b := 23) (ctL_ok (l := [(51, ct_7), (55, ct_8), (52, ct_9)]) (And.intro (CK_up cc_7 (by decide)) (And.intro (CK_up cc_8 (by decide)) (And.intro (CK_up cc_9 (by decide)) trivial)))) (mo_X2_takeSeason rfl _) hc_10
theorem cc_14 {Ev : Env9} : CK Ev 14 (49, ct_14) := xctr_ok hu0 hang_0 hR9 hMT9 (b := 5) (ctL_ok (l := [(338, ct_11), (339, ct_12), (339, ct_13)]) (And.intro (CK_up hh_11 (by decide)) (And.intro (CK_up hh_12 (by decide)) (And.intro (CK_up hh_13 (by decide)) trivial)))) (mo_X7_wordIs rfl _) hc_14
theorem cc_15 {Ev : Env9} : CK Ev 23 (51, ct_15) := xctr_ok hu0 hang_0 hR9 hMT9 (b := 14) (ctL_ok (l := [(48, ct_2), (49, ct_14)]) (And.intro (CK_up cc_2 (by decide)) (And.intro (CK_up cc_14 (by decide)) trivial))) (mo_X7_takeWord rfl _) hc_15
theorem cc_16 {Ev : Env9} : CK Ev 32 (15, ct_16) := xctr_ok hu0 hang_0 hR9 hMT9 (b := 23) (ctL_ok (l := [(48, ct_2), (51, ct_15)]) (And.intro (CK_up cc_2 (by decide)) (And.intro (CK_up cc_15 (by decide)) trivial))) (mo_X2_takeFog rfl _) hc_16
theorem cc_20 {Ev : Env9} : CK Ev 14 (49, ct_20) := xctr_ok hu0 hang_0 hR9 hMT9 (b := 5) (ctL_ok (l := [(338, ct_17), (339, ct_18), (339, ct_19)]) (And.intro (CK_up hh_17 (by decide)) (And.intro (CK_up hh_18 (by decide)) (And.intro (CK_up hh_19 (by decide)) trivial)))) (mo_X7_wordIs rfl _) hc_20
theorem cc_24 {Ev : Env9} : CK Ev 14 (49, ct_24) := xctr_ok hu0 hang_0 hR9 hMT9 (b := 5) (ctL_ok (l := [(338, ct_21), (339, ct_22), (339, ct_23)]) (And.intro (CK_up hh_21 (by decide)) (And.intro (CK_up hh_22 (by decide)) (And.intro (CK_up hh_23 (by decide)) trivial)))) (mo_X7_wordIs rfl _) hc_24
theorem cc_28 {Ev : Env9} : CK Ev 14 (49, ct_28) := xctr_ok hu0 hang_0 hR9 hMT9 (b := 5) (ctL_ok (l := [(338, ct_25), (339, ct_26), (339, ct_27)]) (And.intro (CK_up hh_25 (by decide)) (And.intro (CK_up hh_26 (by decide)) (And.intro (CK_up hh_27 (by decide)) trivial)))) (mo_X7_wordIs rfl _) hc_28
theorem cc_29 {Ev : Env9} : CK Ev 9 (5, ct_29) := xctr_ok hu0 hang_0 hR9 hMT9 (b := 0) (ctL_ok (l := []) trivial) (mo_X0_nameAt rfl _) hc_29
theorem cc_30 {Ev : Env9} : CK Ev 9 (72, ct_30) := xctr_ok hu0 hang_0 hR9 hMT9 (b := 0) (ctL_ok (l := []) trivial) (mo_X9_valleyNamed rfl _) hc_30
theorem cc_31 {Ev : Env9} : CK Ev 18 (58, ct_31) := xctr_ok hu0 hang_0 hR9 hMT9 (b := 9) (ctL_ok (l := [(48, ct_2), (5, ct_29), (72, ct_30)]) (And.intro (CK_up cc_2 (by decide)) (And.intro (CK_up cc_29 (by decide)) (And.intro (CK_up cc_30 (by decide)) trivial)))) (mo_X7_takeValley rfl _) hc_31
theorem cc_32 {Ev : Env9} : CK Ev 9 (71, ct_32) := xctr_ok hu0 hang_0 hR9 hMT9 (b := 0) (ctL_ok (l := []) trivial) (mo_X9_echoNamed rfl _) hc_32
theorem cc_33 {Ev : Env9} : CK Ev 18 (57, ct_33) := xctr_ok hu0 hang_0 hR9 hMT9 (b := 9) (ctL_ok (l := [(48, ct_2), (5, ct_29), (71, ct_32)]) (And.intro (CK_up cc_2 (by decide)) (And.intro (CK_up cc_29 (by decide)) (And.intro (CK_up cc_32 (by decide)) trivial)))) (mo_X7_takeEcho rfl _) hc_33
theorem cc_34 {Ev : Env9} : CK Ev 27 (19, ct_34) := xctr_ok hu0 hang_0 hR9 hMT9 (b := 18) (ctL_ok (l := [(52, ct_9), (58, ct_31), (57, ct_33)]) (And.intro (CK_up cc_9 (by decide)) (And.intro (CK_up cc_31 (by decide)) (And.intro (CK_up cc_33 (by decide)) trivial)))) (mo_X2_takeTest rfl _) hc_34
theorem cc_35 {Ev : Env9} : CK Ev 18 (54, ct_35) := xctr_ok hu0 hang_0 hR9 hMT9 (b := 9) (ctL_ok (l := [(48, ct_2)]) (And.intro (CK_up cc_2 (by decide)) trivial)) (mo_X7_takeName rfl _) hc_35
theorem cc_36 {Ev : Env9} : CK Ev 9 (60, ct_36) := xctr_ok hu0 hang_0 hR9 hMT9 (b := 0) (ctL_ok (l := []) trivial) (mo_X8_start rfl _) hc_36
theorem cc_37 {Ev : Env9} : CK Ev 18 (55, ct_37) := xctr_ok hu0 hang_0 hR9 hMT9 (b := 9) (ctL_ok (l := [(48, ct_2)]) (And.intro (CK_up cc_2 (by decide)) trivial)) (mo_X7_takeNumber rfl _) hc_37
theorem cc_38 {Ev : Env9} : CK Ev 18 (55, ct_38) := xctr_ok hu0 hang_0 hR9 hMT9 (b := 9) (ctL_ok (l := [(48, ct_2)]) (And.intro (CK_up cc_2 (by decide)) trivial)) (mo_X7_takeNumber rfl _) hc_38
theorem cc_39 {Ev : Env9} : CK Ev 18 (55, ct_39) := xctr_ok hu0 hang_0 hR9 hMT9 (b := 9) (ctL_ok (l := [(48, ct_2)]) (And.intro (CK_up cc_2 (by decide)) trivial)) (mo_X7_takeNumber rfl _) hc_39
theorem cc_40 {Ev : Env9} : CK Ev 18 (55, ct_40) := xctr_ok hu0 hang_0 hR9 hMT9 (b := 9) (ctL_ok (l := [(48, ct_2)]) (And.intro (CK_up cc_2 (by decide)) trivial)) (mo_X7_takeNumber rfl _) hc_40
theorem cc_41 {Ev : Env9} : CK Ev 27 (18, ct_41) := xctr_ok hu0 hang_0 hR9 hMT9 (b := 18) (ctL_ok (l := [(52, ct_9), (5, ct_29), (72, ct_30), (54, ct_35), (60, ct_36), (55, ct_37), (55, ct_38), (55, ct_39), (55, ct_40)]) (And.intro (CK_up cc_9 (by decide)) (And.intro (CK_up cc_29 (by decide)) (And.intro (CK_up cc_30 (by decide)) (And.intro (CK_up cc_35 (by decide)) (And.intro (CK_up cc_36 (by decide)) (And.intro (CK_up cc_37 (by decide)) (And.intro (CK_up cc_38 (by decide)) (And.intro (CK_up cc_39 (by decide)) (And.intro (CK_up cc_40 (by decide)) trivial)))))))))) (mo_X2_takeNewValley rfl _) hc_41
theorem cc_42 {Ev : Env9} : CK Ev 18 (55, ct_42) := xctr_ok hu0 hang_0 hR9 hMT9 (b := 9) (ctL_ok (l := [(48, ct_2)]) (And.intro (CK_up cc_2 (by decide)) trivial)) (mo_X7_takeNumber rfl _) hc_42
theorem cc_43 {Ev : Env9} : CK Ev 27 (17, ct_43) := xctr_ok hu0 hang_0 hR9 hMT9 (b := 18) (ctL_ok (l := [(52, ct_9), (5, ct_29), (71, ct_32), (54, ct_35), (55, ct_37), (55, ct_39), (55, ct_42)]) (And.intro (CK_up cc_9 (by decide)) (And.intro (CK_up cc_29 (by decide)) (And.intro (CK_up cc_32 (by decide)) (And.intro (CK_up cc_35 (by decide)) (And.intro (CK_up cc_37 (by decide)) (And.intro (CK_up cc_39 (by decide)) (And.intro (CK_up cc_42 (by decide)) trivial)))))))) (mo_X2_takeNewEcho rfl _) hc_43
theorem cc_44 {Ev : Env9} : CK Ev 36 (16, ct_44) := xctr_ok hu0 hang_0 hR9 hMT9 (b := 27) (ctL_ok (l := [(49, ct_20), (49, ct_24), (49, ct_28), (19, ct_34), (18, ct_41), (17, ct_43)]) (And.intro (CK_up cc_20 (by decide)) (And.intro (CK_up cc_24 (by decide)) (And.intro (CK_up cc_28 (by decide)) (And.intro (CK_up cc_34 (by decide)) (And.intro (CK_up cc_41 (by decide)) (And.intro (CK_up cc_43 (by decide)) trivial))))))) (mo_X2_takeStatement rfl _) hc_44
theorem cc_45 {Ev : Env9} : CK Ev 45 (12, ct_45) := xctr_ok hu0 hang_0 hR9 hMT9 (b := 36) (ctL_ok (l := [(48, ct_2), (14, ct_10), (15, ct_16), (16, ct_44)]) (And.intro (CK_up cc_2 (by decide)) (And.intro (CK_up cc_10 (by decide)) (And.intro (CK_up cc_16 (by decide)) (And.intro (CK_up cc_44 (by decide)) trivial))))) (mo_X2_parse rfl _) hc_45
theorem cc_46 {Ev : Env9} : CK Ev 9 (70, ct_46) := xctr_ok hu0 hang_0 hR9 hMT9 (b := 0) (ctL_ok (l := []) trivial) (mo_X9_copyFrom rfl _) hc_46
theorem cc_47 {Ev : Env9} : CK Ev 54 (101, ct_47) := xctr_ok hu0 hang_0 hR9 hMT9 (b := 45) (ctL_ok (l := [(12, ct_45), (70, ct_46)]) (And.intro (CK_up cc_45 (by decide)) (And.intro (CK_up cc_46 (by decide)) trivial))) (mo_X10_load rfl _) hc_47
theorem cc_48 {Ev : Env9} : CK Ev 9 (103, ct_48) := xctr_ok hu0 hang_0 hR9 hMT9 (b := 0) (ctL_ok (l := []) trivial) (mo_X10_errorCode rfl _) hc_48
theorem cc_49 {Ev : Env9} : CK Ev 9 (104, ct_49) := xctr_ok hu0 hang_0 hR9 hMT9 (b := 0) (ctL_ok (l := []) trivial) (mo_X10_errorPosition rfl _) hc_49
theorem cc_50 {Ev : Env9} : CK Ev 9 (105, ct_50) := xctr_ok hu0 hang_0 hR9 hMT9 (b := 0) (ctL_ok (l := []) trivial) (mo_X10_echoCount rfl _) hc_50
theorem cc_51 {Ev : Env9} : CK Ev 9 (106, ct_51) := xctr_ok hu0 hang_0 hR9 hMT9 (b := 0) (ctL_ok (l := []) trivial) (mo_X10_valleyCount rfl _) hc_51
theorem cc_52 {Ev : Env9} : CK Ev 9 (107, ct_52) := xctr_ok hu0 hang_0 hR9 hMT9 (b := 0) (ctL_ok (l := []) trivial) (mo_X10_day rfl _) hc_52
theorem cc_53 {Ev : Env9} : CK Ev 9 (108, ct_53) := xctr_ok hu0 hang_0 hR9 hMT9 (b := 0) (ctL_ok (l := []) trivial) (mo_X10_seasonLength rfl _) hc_53
theorem cc_55 {Ev : Env9} : CK Ev 10 (109, ct_55) := xctr_ok hu0 hang_0 hR9 hMT9 (b := 1) (ctL_ok (l := [(335, ct_54)]) (And.intro (CK_up hh_54 (by decide)) trivial)) (mo_X10_fogOf rfl _) hc_55
theorem cc_56 {Ev : Env9} : CK Ev 18 (110, ct_56) := xctr_ok hu0 hang_0 hR9 hMT9 (b := 9) (ctL_ok (l := [(5, ct_29), (71, ct_32)]) (And.intro (CK_up cc_29 (by decide)) (And.intro (CK_up cc_32 (by decide)) trivial))) (mo_X10_findEcho rfl _) hc_56
theorem cc_57 {Ev : Env9} : CK Ev 18 (111, ct_57) := xctr_ok hu0 hang_0 hR9 hMT9 (b := 9) (ctL_ok (l := [(5, ct_29), (72, ct_30)]) (And.intro (CK_up cc_29 (by decide)) (And.intro (CK_up cc_30 (by decide)) trivial))) (mo_X10_findValley rfl _) hc_57
theorem cc_58 {Ev : Env9} : CK Ev 9 (112, ct_58) := xctr_ok hu0 hang_0 hR9 hMT9 (b := 0) (ctL_ok (l := []) trivial) (mo_X10_delayOf rfl _) hc_58
theorem cc_59 {Ev : Env9} : CK Ev 9 (113, ct_59) := xctr_ok hu0 hang_0 hR9 hMT9 (b := 0) (ctL_ok (l := []) trivial) (mo_X10_repeatsOf rfl _) hc_59
theorem cc_60 {Ev : Env9} : CK Ev 9 (114, ct_60) := xctr_ok hu0 hang_0 hR9 hMT9 (b := 0) (ctL_ok (l := []) trivial) (mo_X10_reserveWage rfl _) hc_60
theorem cc_61 {Ev : Env9} : CK Ev 9 (115, ct_61) := xctr_ok hu0 hang_0 hR9 hMT9 (b := 0) (ctL_ok (l := []) trivial) (mo_X10_resistanceOf rfl _) hc_61
theorem cc_62 {Ev : Env9} : CK Ev 9 (116, ct_62) := xctr_ok hu0 hang_0 hR9 hMT9 (b := 0) (ctL_ok (l := []) trivial) (mo_X10_savingsOf rfl _) hc_62
theorem cc_63 {Ev : Env9} : CK Ev 9 (117, ct_63) := xctr_ok hu0 hang_0 hR9 hMT9 (b := 0) (ctL_ok (l := []) trivial) (mo_X10_unpaidDays rfl _) hc_63
theorem cc_64 {Ev : Env9} : CK Ev 9 (118, ct_64) := xctr_ok hu0 hang_0 hR9 hMT9 (b := 0) (ctL_ok (l := []) trivial) (mo_X10_employerOf rfl _) hc_64
theorem cc_65 {Ev : Env9} : CK Ev 9 (119, ct_65) := xctr_ok hu0 hang_0 hR9 hMT9 (b := 0) (ctL_ok (l := []) trivial) (mo_X10_widthOf rfl _) hc_65
theorem cc_66 {Ev : Env9} : CK Ev 9 (120, ct_66) := xctr_ok hu0 hang_0 hR9 hMT9 (b := 0) (ctL_ok (l := []) trivial) (mo_X10_postsOf rfl _) hc_66
theorem cc_67 {Ev : Env9} : CK Ev 9 (121, ct_67) := xctr_ok hu0 hang_0 hR9 hMT9 (b := 0) (ctL_ok (l := []) trivial) (mo_X10_wageOf rfl _) hc_67
theorem cc_68 {Ev : Env9} : CK Ev 9 (122, ct_68) := xctr_ok hu0 hang_0 hR9 hMT9 (b := 0) (ctL_ok (l := []) trivial) (mo_X10_purseOf rfl _) hc_68
theorem cc_69 {Ev : Env9} : CK Ev 9 (123, ct_69) := xctr_ok hu0 hang_0 hR9 hMT9 (b := 0) (ctL_ok (l := []) trivial) (mo_X10_staffCount rfl _) hc_69
theorem cc_70 {Ev : Env9} : CK Ev 9 (124, ct_70) := xctr_ok hu0 hang_0 hR9 hMT9 (b := 0) (ctL_ok (l := []) trivial) (mo_X10_staffMember rfl _) hc_70
theorem cc_71 {Ev : Env9} : CK Ev 9 (125, ct_71) := xctr_ok hu0 hang_0 hR9 hMT9 (b := 0) (ctL_ok (l := []) trivial) (mo_X10_isTested rfl _) hc_71
theorem cc_72 {Ev : Env9} : CK Ev 9 (73, ct_72) := xctr_ok hu0 hang_0 hR9 hMT9 (b := 0) (ctL_ok (l := []) trivial) (mo_X9_trueScore rfl _) hc_72
theorem cc_73 {Ev : Env9} : CK Ev 18 (74, ct_73) := xctr_ok hu0 hang_0 hR9 hMT9 (b := 9) (ctL_ok (l := [(73, ct_72)]) (And.intro (CK_up cc_72 (by decide)) trivial)) (mo_X9_scoreSeen rfl _) hc_73
theorem cc_74 {Ev : Env9} : CK Ev 27 (126, ct_74) := xctr_ok hu0 hang_0 hR9 hMT9 (b := 18) (ctL_ok (l := [(74, ct_73)]) (And.intro (CK_up cc_73 (by decide)) trivial)) (mo_X10_seenScore rfl _) hc_74
theorem cc_75 {Ev : Env9} : CK Ev 27 (127, ct_75) := xctr_ok hu0 hang_0 hR9 hMT9 (b := 18) (ctL_ok (l := [(74, ct_73)]) (And.intro (CK_up cc_73 (by decide)) trivial)) (mo_X10_pairReason rfl _) hc_75
theorem cc_76 {Ev : Env9} : CK Ev 27 (76, ct_76) := xctr_ok hu0 hang_0 hR9 hMT9 (b := 18) (ctL_ok (l := [(74, ct_73)]) (And.intro (CK_up cc_73 (by decide)) trivial)) (mo_X9_isAcceptable rfl _) hc_76
theorem cc_77 {Ev : Env9} : CK Ev 9 (77, ct_77) := xctr_ok hu0 hang_0 hR9 hMT9 (b := 0) (ctL_ok (l := []) trivial) (mo_X9_paysBetter rfl _) hc_77
theorem cc_78 {Ev : Env9} : CK Ev 36 (79, ct_78) := xctr_ok hu0 hang_0 hR9 hMT9 (b := 27) (ctL_ok (l := [(76, ct_76), (77, ct_77)]) (And.intro (CK_up cc_76 (by decide)) (And.intro (CK_up cc_77 (by decide)) trivial))) (mo_X9_rankOfValley rfl _) hc_78
theorem cc_79 {Ev : Env9} : CK Ev 45 (128, ct_79) := xctr_ok hu0 hang_0 hR9 hMT9 (b := 36) (ctL_ok (l := [(76, ct_76), (79, ct_78)]) (And.intro (CK_up cc_76 (by decide)) (And.intro (CK_up cc_78 (by decide)) trivial))) (mo_X10_preferredValley rfl _) hc_79
theorem cc_80 {Ev : Env9} : CK Ev 27 (78, ct_80) := xctr_ok hu0 hang_0 hR9 hMT9 (b := 18) (ctL_ok (l := [(74, ct_73)]) (And.intro (CK_up cc_73 (by decide)) trivial)) (mo_X9_prefersEcho rfl _) hc_80
theorem cc_81 {Ev : Env9} : CK Ev 36 (80, ct_81) := xctr_ok hu0 hang_0 hR9 hMT9 (b := 27) (ctL_ok (l := [(76, ct_76), (78, ct_80)]) (And.intro (CK_up cc_76 (by decide)) (And.intro (CK_up cc_80 (by decide)) trivial))) (mo_X9_rankOfEcho rfl _) hc_81
theorem cc_82 {Ev : Env9} : CK Ev 45 (129, ct_82) := xctr_ok hu0 hang_0 hR9 hMT9 (b := 36) (ctL_ok (l := [(76, ct_76), (80, ct_81)]) (And.intro (CK_up cc_76 (by decide)) (And.intro (CK_up cc_81 (by decide)) trivial))) (mo_X10_preferredEcho rfl _) hc_82
theorem cc_83 {Ev : Env9} : CK Ev 36 (82, ct_83) := xctr_ok hu0 hang_0 hR9 hMT9 (b := 27) (ctL_ok (l := [(76, ct_76), (77, ct_77)]) (And.intro (CK_up cc_76 (by decide)) (And.intro (CK_up cc_77 (by decide)) trivial))) (mo_X9_wouldMove rfl _) hc_83
theorem cc_84 {Ev : Env9} : CK Ev 36 (83, ct_84) := xctr_ok hu0 hang_0 hR9 hMT9 (b := 27) (ctL_ok (l := [(78, ct_80)]) (And.intro (CK_up cc_80 (by decide)) trivial)) (mo_X9_wouldTake rfl _) hc_84
theorem cc_85 {Ev : Env9} : CK Ev 45 (81, ct_85) := xctr_ok hu0 hang_0 hR9 hMT9 (b := 36) (ctL_ok (l := [(76, ct_76), (82, ct_83), (83, ct_84)]) (And.intro (CK_up cc_76 (by decide)) (And.intro (CK_up cc_83 (by decide)) (And.intro (CK_up cc_84 (by decide)) trivial)))) (mo_X9_isBlocking rfl _) hc_85
theorem cc_86 {Ev : Env9} : CK Ev 54 (130, ct_86) := xctr_ok hu0 hang_0 hR9 hMT9 (b := 45) (ctL_ok (l := [(81, ct_85)]) (And.intro (CK_up cc_85 (by decide)) trivial)) (mo_X10_blockingPairs rfl _) hc_86
theorem cc_87 {Ev : Env9} : CK Ev 9 (31, ct_87) := xctr_ok hu0 hang_0 hR9 hMT9 (b := 0) (ctL_ok (l := []) trivial) (mo_X5_enrol rfl _) hc_87
theorem cc_88 {Ev : Env9} : CK Ev 27 (32, ct_88) := xctr_ok hu0 hang_0 hR9 hMT9 (b := 18) (ctL_ok (l := [(74, ct_73)]) (And.intro (CK_up cc_73 (by decide)) trivial)) (mo_X5_weigh rfl _) hc_88
theorem cc_89 {Ev : Env9} : CK Ev 18 (34, ct_89) := xctr_ok hu0 hang_0 hR9 hMT9 (b := 9) (ctL_ok (l := [(77, ct_77)]) (And.intro (CK_up cc_77 (by decide)) trivial)) (mo_X5_favourite rfl _) hc_89
theorem cc_90 {Ev : Env9} : CK Ev 9 (37, ct_90) := xctr_ok hu0 hang_0 hR9 hMT9 (b := 0) (ctL_ok (l := []) trivial) (mo_X5_prefers rfl _) hc_90
theorem cc_91 {Ev : Env9} : CK Ev 18 (36, ct_91) := xctr_ok hu0 hang_0 hR9 hMT9 (b := 9) (ctL_ok (l := [(37, ct_90)]) (And.intro (CK_up cc_90 (by decide)) trivial)) (mo_X5_leastKept rfl _) hc_91
theorem cc_92 {Ev : Env9} : CK Ev 27 (35, ct_92) := xctr_ok hu0 hang_0 hR9 hMT9 (b := 18) (ctL_ok (l := [(37, ct_90), (36, ct_91)]) (And.intro (CK_up cc_90 (by decide)) (And.intro (CK_up cc_91 (by decide)) trivial))) (mo_X5_apply rfl _) hc_92
theorem cc_93 {Ev : Env9} : CK Ev 9 (85, ct_93) := xctr_ok hu0 hang_0 hR9 hMT9 (b := 0) (ctL_ok (l := []) trivial) (mo_X9_employ rfl _) hc_93
theorem cc_94 {Ev : Env9} : CK Ev 18 (38, ct_94) := xctr_ok hu0 hang_0 hR9 hMT9 (b := 9) (ctL_ok (l := [(85, ct_93)]) (And.intro (CK_up cc_93 (by decide)) trivial)) (mo_X5_sign rfl _) hc_94
theorem cc_95 {Ev : Env9} : CK Ev 36 (30, ct_95) := xctr_ok hu0 hang_0 hR9 hMT9 (b := 27) (ctL_ok (l := [(31, ct_87), (32, ct_88), (34, ct_89), (35, ct_92), (38, ct_94)]) (And.intro (CK_up cc_87 (by decide)) (And.intro (CK_up cc_88 (by decide)) (And.intro (CK_up cc_89 (by decide)) (And.intro (CK_up cc_92 (by decide)) (And.intro (CK_up cc_94 (by decide)) trivial)))))) (mo_X5_hold rfl _) hc_95
theorem cc_96 {Ev : Env9} : CK Ev 45 (131, ct_96) := xctr_ok hu0 hang_0 hR9 hMT9 (b := 36) (ctL_ok (l := [(70, ct_46), (30, ct_95)]) (And.intro (CK_up cc_46 (by decide)) (And.intro (CK_up cc_95 (by decide)) trivial))) (mo_X10_fairResult rfl _) hc_96
theorem cc_97 {Ev : Env9} : CK Ev 9 (89, ct_97) := xctr_ok hu0 hang_0 hR9 hMT9 (b := 0) (ctL_ok (l := []) trivial) (mo_X9_hearReplies rfl _) hc_97
theorem cc_98 {Ev : Env9} : CK Ev 9 (90, ct_98) := xctr_ok hu0 hang_0 hR9 hMT9 (b := 0) (ctL_ok (l := []) trivial) (mo_X9_payStaff rfl _) hc_98
theorem cc_99 {Ev : Env9} : CK Ev 18 (88, ct_99) := xctr_ok hu0 hang_0 hR9 hMT9 (b := 9) (ctL_ok (l := [(89, ct_97), (90, ct_98)]) (And.intro (CK_up cc_97 (by decide)) (And.intro (CK_up cc_98 (by decide)) trivial))) (mo_X9_work rfl _) hc_99
theorem cc_100 {Ev : Env9} : CK Ev 9 (86, ct_100) := xctr_ok hu0 hang_0 hR9 hMT9 (b := 0) (ctL_ok (l := []) trivial) (mo_X9_endContract rfl _) hc_100
theorem cc_101 {Ev : Env9} : CK Ev 18 (91, ct_101) := xctr_ok hu0 hang_0 hR9 hMT9 (b := 9) (ctL_ok (l := [(86, ct_100)]) (And.intro (CK_up cc_100 (by decide)) trivial)) (mo_X9_desert rfl _) hc_101
theorem cc_102 {Ev : Env9} : CK Ev 18 (87, ct_102) := xctr_ok hu0 hang_0 hR9 hMT9 (b := 9) (ctL_ok (l := [(86, ct_100)]) (And.intro (CK_up cc_100 (by decide)) trivial)) (mo_X9_endSeason rfl _) hc_102
theorem cc_103 {Ev : Env9} : CK Ev 45 (169, ct_103) := xctr_ok hu0 hang_0 hR9 hMT9 (b := 36) (ctL_ok (l := [(335, ct_54), (30, ct_95), (88, ct_99), (91, ct_101), (87, ct_102)]) (And.intro (CK_up hh_54 (by decide)) (And.intro (CK_up cc_95 (by decide)) (And.intro (CK_up cc_99 (by decide)) (And.intro (CK_up cc_101 (by decide)) (And.intro (CK_up cc_102 (by decide)) trivial)))))) (mo_X10_letDaysPass rfl _) hc_103
theorem cc_104 {Ev : Env9} : CK Ev 54 (132, ct_104) := xctr_ok hu0 hang_0 hR9 hMT9 (b := 45) (ctL_ok (l := [(70, ct_46), (169, ct_103)]) (And.intro (CK_up cc_46 (by decide)) (And.intro (CK_up cc_103 (by decide)) trivial))) (mo_X10_savingsAfter rfl _) hc_104
theorem cc_105 {Ev : Env9} : CK Ev 54 (133, ct_105) := xctr_ok hu0 hang_0 hR9 hMT9 (b := 45) (ctL_ok (l := [(70, ct_46), (169, ct_103)]) (And.intro (CK_up cc_46 (by decide)) (And.intro (CK_up cc_103 (by decide)) trivial))) (mo_X10_purseAfter rfl _) hc_105
theorem cc_106 {Ev : Env9} : CK Ev 54 (134, ct_106) := xctr_ok hu0 hang_0 hR9 hMT9 (b := 45) (ctL_ok (l := [(70, ct_46), (169, ct_103)]) (And.intro (CK_up cc_46 (by decide)) (And.intro (CK_up cc_103 (by decide)) trivial))) (mo_X10_desertsIn rfl _) hc_106
theorem cc_107 {Ev : Env9} : CK Ev 45 (135, ct_107) := xctr_ok hu0 hang_0 hR9 hMT9 (b := 36) (ctL_ok (l := [(70, ct_46), (30, ct_95)]) (And.intro (CK_up cc_46 (by decide)) (And.intro (CK_up cc_95 (by decide)) trivial))) (mo_X10_leastWage rfl _) hc_107
theorem cc_108 {Ev : Env9} : CK Ev 9 (84, ct_108) := xctr_ok hu0 hang_0 hR9 hMT9 (b := 0) (ctL_ok (l := []) trivial) (mo_X9_canTest rfl _) hc_108
theorem cc_109 {Ev : Env9} : CK Ev 18 (136, ct_109) := xctr_ok hu0 hang_0 hR9 hMT9 (b := 9) (ctL_ok (l := [(73, ct_72), (84, ct_108)]) (And.intro (CK_up cc_72 (by decide)) (And.intro (CK_up cc_108 (by decide)) trivial))) (mo_X10_bestTest rfl _) hc_109
theorem cc_110 {Ev : Env9} : CK Ev 9 (137, ct_110) := xctr_ok hu0 hang_0 hR9 hMT9 (b := 0) (ctL_ok (l := []) trivial) (mo_X10_richestEcho rfl _) hc_110
theorem cc_111 {Ev : Env9} : CK Ev 9 (138, ct_111) := xctr_ok hu0 hang_0 hR9 hMT9 (b := 0) (ctL_ok (l := []) trivial) (mo_X10_daysServed rfl _) hc_111
theorem cc_112 {Ev : Env9} : CK Ev 9 (139, ct_112) := xctr_ok hu0 hang_0 hR9 hMT9 (b := 0) (ctL_ok (l := []) trivial) (mo_X10_contractsMade rfl _) hc_112
theorem cc_113 {Ev : Env9} : CK Ev 9 (140, ct_113) := xctr_ok hu0 hang_0 hR9 hMT9 (b := 0) (ctL_ok (l := []) trivial) (mo_X10_contractsEnded rfl _) hc_113
theorem cc_114 {Ev : Env9} : CK Ev 9 (141, ct_114) := xctr_ok hu0 hang_0 hR9 hMT9 (b := 0) (ctL_ok (l := []) trivial) (mo_X10_desertions rfl _) hc_114
theorem cc_115 {Ev : Env9} : CK Ev 9 (142, ct_115) := xctr_ok hu0 hang_0 hR9 hMT9 (b := 0) (ctL_ok (l := []) trivial) (mo_X10_repliesHeard rfl _) hc_115
theorem cc_116 {Ev : Env9} : CK Ev 9 (143, ct_116) := xctr_ok hu0 hang_0 hR9 hMT9 (b := 0) (ctL_ok (l := []) trivial) (mo_X10_wagesPaid rfl _) hc_116
theorem cc_117 {Ev : Env9} : CK Ev 9 (94, ct_117) := xctr_ok hu0 hang_0 hR9 hMT9 (b := 0) (ctL_ok (l := []) trivial) (mo_X9_moneyInPurses rfl _) hc_117
theorem cc_118 {Ev : Env9} : CK Ev 9 (95, ct_118) := xctr_ok hu0 hang_0 hR9 hMT9 (b := 0) (ctL_ok (l := []) trivial) (mo_X9_moneySaved rfl _) hc_118
theorem cc_119 {Ev : Env9} : CK Ev 18 (144, ct_119) := xctr_ok hu0 hang_0 hR9 hMT9 (b := 9) (ctL_ok (l := [(94, ct_117), (95, ct_118)]) (And.intro (CK_up cc_117 (by decide)) (And.intro (CK_up cc_118 (by decide)) trivial))) (mo_X10_moneyImbalance rfl _) hc_119
theorem cc_120 {Ev : Env9} : CK Ev 9 (96, ct_120) := xctr_ok hu0 hang_0 hR9 hMT9 (b := 0) (ctL_ok (l := []) trivial) (mo_X9_contracts rfl _) hc_120
theorem cc_121 {Ev : Env9} : CK Ev 18 (145, ct_121) := xctr_ok hu0 hang_0 hR9 hMT9 (b := 9) (ctL_ok (l := [(96, ct_120)]) (And.intro (CK_up cc_120 (by decide)) trivial)) (mo_X10_contractImbalance rfl _) hc_121
theorem cc_122 {Ev : Env9} : CK Ev 9 (97, ct_122) := xctr_ok hu0 hang_0 hR9 hMT9 (b := 0) (ctL_ok (l := []) trivial) (mo_X9_valleysServedBy rfl _) hc_122
theorem cc_123 {Ev : Env9} : CK Ev 18 (146, ct_123) := xctr_ok hu0 hang_0 hR9 hMT9 (b := 9) (ctL_ok (l := [(97, ct_122)]) (And.intro (CK_up cc_122 (by decide)) trivial)) (mo_X10_doubleServants rfl _) hc_123
theorem cc_124 {Ev : Env9} : CK Ev 18 (147, ct_124) := xctr_ok hu0 hang_0 hR9 hMT9 (b := 9) (ctL_ok (l := [(95, ct_118)]) (And.intro (CK_up cc_118 (by decide)) trivial)) (mo_X10_meanSavings rfl _) hc_124
theorem cc_125 {Ev : Env9} : CK Ev 9 (148, ct_125) := xctr_ok hu0 hang_0 hR9 hMT9 (b := 0) (ctL_ok (l := []) trivial) (mo_X10_employmentRate rfl _) hc_125
theorem cc_126 {Ev : Env9} : CK Ev 18 (27, ct_126) := xctr_ok hu0 hang_0 hR9 hMT9 (b := 9) (ctL_ok (l := [(70, ct_46)]) (And.intro (CK_up cc_46 (by decide)) trivial)) (mo_X4_push rfl _) hc_126
theorem cc_127 {Ev : Env9} : CK Ev 54 (149, ct_127) := xctr_ok hu0 hang_0 hR9 hMT9 (b := 45) (ctL_ok (l := [(169, ct_103), (27, ct_126)]) (And.intro (CK_up cc_103 (by decide)) (And.intro (CK_up cc_126 (by decide)) trivial))) (mo_X10_passDays rfl _) hc_127
theorem cc_128 {Ev : Env9} : CK Ev 45 (150, ct_128) := xctr_ok hu0 hang_0 hR9 hMT9 (b := 36) (ctL_ok (l := [(30, ct_95), (27, ct_126)]) (And.intro (CK_up cc_95 (by decide)) (And.intro (CK_up cc_126 (by decide)) trivial))) (mo_X10_holdFair rfl _) hc_128
theorem cc_129 {Ev : Env9} : CK Ev 27 (151, ct_129) := xctr_ok hu0 hang_0 hR9 hMT9 (b := 18) (ctL_ok (l := [(73, ct_72), (84, ct_108), (27, ct_126)]) (And.intro (CK_up cc_72 (by decide)) (And.intro (CK_up cc_108 (by decide)) (And.intro (CK_up cc_126 (by decide)) trivial)))) (mo_X10_test rfl _) hc_129
theorem cc_130 {Ev : Env9} : CK Ev 27 (152, ct_130) := xctr_ok hu0 hang_0 hR9 hMT9 (b := 18) (ctL_ok (l := [(86, ct_100), (27, ct_126)]) (And.intro (CK_up cc_100 (by decide)) (And.intro (CK_up cc_126 (by decide)) trivial))) (mo_X10_dismiss rfl _) hc_130
theorem cc_131 {Ev : Env9} : CK Ev 27 (153, ct_131) := xctr_ok hu0 hang_0 hR9 hMT9 (b := 18) (ctL_ok (l := [(27, ct_126)]) (And.intro (CK_up cc_126 (by decide)) trivial)) (mo_X10_setWage rfl _) hc_131
theorem cc_132 {Ev : Env9} : CK Ev 27 (154, ct_132) := xctr_ok hu0 hang_0 hR9 hMT9 (b := 18) (ctL_ok (l := [(27, ct_126)]) (And.intro (CK_up cc_126 (by decide)) trivial)) (mo_X10_fund rfl _) hc_132
theorem cc_133 {Ev : Env9} : CK Ev 27 (155, ct_133) := xctr_ok hu0 hang_0 hR9 hMT9 (b := 18) (ctL_ok (l := [(27, ct_126)]) (And.intro (CK_up cc_126 (by decide)) trivial)) (mo_X10_train rfl _) hc_133
theorem cc_134 {Ev : Env9} : CK Ev 18 (28, ct_134) := xctr_ok hu0 hang_0 hR9 hMT9 (b := 9) (ctL_ok (l := [(70, ct_46)]) (And.intro (CK_up cc_46 (by decide)) trivial)) (mo_X4_pop rfl _) hc_134
theorem cc_135 {Ev : Env9} : CK Ev 27 (156, ct_135) := xctr_ok hu0 hang_0 hR9 hMT9 (b := 18) (ctL_ok (l := [(28, ct_134)]) (And.intro (CK_up cc_134 (by decide)) trivial)) (mo_X10_undo rfl _) hc_135
theorem cc_136 {Ev : Env9} : CK Ev 18 (157, ct_136) := xctr_ok hu0 hang_0 hR9 hMT9 (b := 9) (ctL_ok (l := [(70, ct_46)]) (And.intro (CK_up cc_46 (by decide)) trivial)) (mo_X10_save rfl _) hc_136
theorem cc_137 {Ev : Env9} : CK Ev 18 (158, ct_137) := xctr_ok hu0 hang_0 hR9 hMT9 (b := 9) (ctL_ok (l := [(70, ct_46)]) (And.intro (CK_up cc_46 (by decide)) trivial)) (mo_X10_restore rfl _) hc_137
theorem cc_138 {Ev : Env9} : CK Ev 9 (3, ct_138) := xctr_ok hu0 hang_0 hR9 hMT9 (b := 0) (ctL_ok (l := []) trivial) (mo_X0_addName rfl _) hc_138
theorem cc_139 {Ev : Env9} : CK Ev 18 (171, ct_139) := xctr_ok hu0 hang_0 hR9 hMT9 (b := 9) (ctL_ok (l := [(3, ct_138)]) (And.intro (CK_up cc_138 (by decide)) trivial)) (mo_X10_writeContracts rfl _) hc_139
theorem cc_140 {Ev : Env9} : CK Ev 27 (159, ct_140) := xctr_ok hu0 hang_0 hR9 hMT9 (b := 18) (ctL_ok (l := [(171, ct_139)]) (And.intro (CK_up cc_139 (by decide)) trivial)) (mo_X10_formatContracts rfl _) hc_140
theorem cc_141 {Ev : Env9} : CK Ev 9 (160, ct_141) := xctr_ok hu0 hang_0 hR9 hMT9 (b := 0) (ctL_ok (l := []) trivial) (mo_X10_outputByte rfl _) hc_141
theorem cc_142 {Ev : Env9} : CK Ev 9 (161, ct_142) := xctr_ok hu0 hang_0 hR9 hMT9 (b := 0) (ctL_ok (l := []) trivial) (mo_X10_requireEcho rfl _) hc_142
theorem cc_143 {Ev : Env9} : CK Ev 9 (162, ct_143) := xctr_ok hu0 hang_0 hR9 hMT9 (b := 0) (ctL_ok (l := []) trivial) (mo_X10_requireValley rfl _) hc_143
theorem cc_144 {Ev : Env9} : CK Ev 18 (163, ct_144) := xctr_ok hu0 hang_0 hR9 hMT9 (b := 9) (ctL_ok (l := [(161, ct_142), (162, ct_143)]) (And.intro (CK_up cc_142 (by decide)) (And.intro (CK_up cc_143 (by decide)) trivial))) (mo_X10_requirePair rfl _) hc_144
theorem cc_145 {Ev : Env9} : CK Ev 18 (166, ct_145) := xctr_ok hu0 hang_0 hR9 hMT9 (b := 9) (ctL_ok (l := [(70, ct_46)]) (And.intro (CK_up cc_46 (by decide)) trivial)) (mo_X10_adoptDraft rfl _) hc_145
theorem cc_146 {Ev : Env9} : CK Ev 9 (167, ct_146) := xctr_ok hu0 hang_0 hR9 hMT9 (b := 0) (ctL_ok (l := []) trivial) (mo_X10_noteErrors rfl _) hc_146
theorem cc_147 {Ev : Env9} : CK Ev 9 (226, ct_147) := xctr_ok hu0 hang_0 hR9 hMT9 (b := 0) (ctL_ok (l := []) trivial) (mo_X11_append rfl _) hc_147
theorem cc_148 {Ev : Env9} : CK Ev 9 (227, ct_148) := xctr_ok hu0 hang_0 hR9 hMT9 (b := 0) (ctL_ok (l := []) trivial) (mo_X11_truncate rfl _) hc_148
theorem cc_149 {Ev : Env9} : CK Ev 9 (245, ct_149) := xctr_ok hu0 hang_0 hR9 hMT9 (b := 0) (ctL_ok (l := []) trivial) (mo_X11_errorCode rfl _) hc_149
theorem cc_150 {Ev : Env9} : CK Ev 9 (246, ct_150) := xctr_ok hu0 hang_0 hR9 hMT9 (b := 0) (ctL_ok (l := []) trivial) (mo_X11_errorPosition rfl _) hc_150
theorem cc_151 {Ev : Env9} : CK Ev 9 (263, ct_151) := xctr_ok hu0 hang_0 hR9 hMT9 (b := 0) (ctL_ok (l := []) trivial) (mo_X11_echoCount rfl _) hc_151
theorem cc_152 {Ev : Env9} : CK Ev 9 (264, ct_152) := xctr_ok hu0 hang_0 hR9 hMT9 (b := 0) (ctL_ok (l := []) trivial) (mo_X11_valleyCount rfl _) hc_152
theorem cc_153 {Ev : Env9} : CK Ev 9 (265, ct_153) := xctr_ok hu0 hang_0 hR9 hMT9 (b := 0) (ctL_ok (l := []) trivial) (mo_X11_day rfl _) hc_153
theorem cc_154 {Ev : Env9} : CK Ev 9 (266, ct_154) := xctr_ok hu0 hang_0 hR9 hMT9 (b := 0) (ctL_ok (l := []) trivial) (mo_X11_seasonLength rfl _) hc_154
theorem cc_155 {Ev : Env9} : CK Ev 9 (267, ct_155) := xctr_ok hu0 hang_0 hR9 hMT9 (b := 0) (ctL_ok (l := []) trivial) (mo_X11_fogOf rfl _) hc_155
theorem cc_156 {Ev : Env9} : CK Ev 9 (229, ct_156) := xctr_ok hu0 hang_0 hR9 hMT9 (b := 0) (ctL_ok (l := []) trivial) (mo_X11_next rfl _) hc_156
theorem cc_157 {Ev : Env9} : CK Ev 9 (240, ct_157) := xctr_ok hu0 hang_0 hR9 hMT9 (b := 0) (ctL_ok (l := []) trivial) (mo_X11_thingHere rfl _) hc_157
theorem cc_158 {Ev : Env9} : CK Ev 18 (269, ct_158) := xctr_ok hu0 hang_0 hR9 hMT9 (b := 9) (ctL_ok (l := [(229, ct_156), (240, ct_157)]) (And.intro (CK_up cc_156 (by decide)) (And.intro (CK_up cc_157 (by decide)) trivial))) (mo_X11_findEcho rfl _) hc_158
theorem cc_159 {Ev : Env9} : CK Ev 18 (270, ct_159) := xctr_ok hu0 hang_0 hR9 hMT9 (b := 9) (ctL_ok (l := [(229, ct_156), (240, ct_157)]) (And.intro (CK_up cc_156 (by decide)) (And.intro (CK_up cc_157 (by decide)) trivial))) (mo_X11_findValley rfl _) hc_159
theorem cc_160 {Ev : Env9} : CK Ev 9 (271, ct_160) := xctr_ok hu0 hang_0 hR9 hMT9 (b := 0) (ctL_ok (l := []) trivial) (mo_X11_delayOf rfl _) hc_160
theorem cc_161 {Ev : Env9} : CK Ev 9 (272, ct_161) := xctr_ok hu0 hang_0 hR9 hMT9 (b := 0) (ctL_ok (l := []) trivial) (mo_X11_repeatsOf rfl _) hc_161
theorem cc_162 {Ev : Env9} : CK Ev 9 (273, ct_162) := xctr_ok hu0 hang_0 hR9 hMT9 (b := 0) (ctL_ok (l := []) trivial) (mo_X11_reserveWage rfl _) hc_162
theorem cc_163 {Ev : Env9} : CK Ev 9 (274, ct_163) := xctr_ok hu0 hang_0 hR9 hMT9 (b := 0) (ctL_ok (l := []) trivial) (mo_X11_resistanceOf rfl _) hc_163
theorem cc_164 {Ev : Env9} : CK Ev 9 (275, ct_164) := xctr_ok hu0 hang_0 hR9 hMT9 (b := 0) (ctL_ok (l := []) trivial) (mo_X11_savingsOf rfl _) hc_164
theorem cc_165 {Ev : Env9} : CK Ev 9 (276, ct_165) := xctr_ok hu0 hang_0 hR9 hMT9 (b := 0) (ctL_ok (l := []) trivial) (mo_X11_unpaidDays rfl _) hc_165
theorem cc_166 {Ev : Env9} : CK Ev 9 (277, ct_166) := xctr_ok hu0 hang_0 hR9 hMT9 (b := 0) (ctL_ok (l := []) trivial) (mo_X11_employerOf rfl _) hc_166
theorem cc_167 {Ev : Env9} : CK Ev 9 (278, ct_167) := xctr_ok hu0 hang_0 hR9 hMT9 (b := 0) (ctL_ok (l := []) trivial) (mo_X11_widthOf rfl _) hc_167
theorem cc_168 {Ev : Env9} : CK Ev 9 (279, ct_168) := xctr_ok hu0 hang_0 hR9 hMT9 (b := 0) (ctL_ok (l := []) trivial) (mo_X11_postsOf rfl _) hc_168
theorem cc_169 {Ev : Env9} : CK Ev 9 (280, ct_169) := xctr_ok hu0 hang_0 hR9 hMT9 (b := 0) (ctL_ok (l := []) trivial) (mo_X11_wageOf rfl _) hc_169
theorem cc_170 {Ev : Env9} : CK Ev 9 (281, ct_170) := xctr_ok hu0 hang_0 hR9 hMT9 (b := 0) (ctL_ok (l := []) trivial) (mo_X11_purseOf rfl _) hc_170
theorem cc_171 {Ev : Env9} : CK Ev 9 (282, ct_171) := xctr_ok hu0 hang_0 hR9 hMT9 (b := 0) (ctL_ok (l := []) trivial) (mo_X11_staffCount rfl _) hc_171
theorem cc_172 {Ev : Env9} : CK Ev 9 (283, ct_172) := xctr_ok hu0 hang_0 hR9 hMT9 (b := 0) (ctL_ok (l := []) trivial) (mo_X11_staffMember rfl _) hc_172
theorem cc_173 {Ev : Env9} : CK Ev 9 (284, ct_173) := xctr_ok hu0 hang_0 hR9 hMT9 (b := 0) (ctL_ok (l := []) trivial) (mo_X11_isTested rfl _) hc_173
theorem cc_174 {Ev : Env9} : CK Ev 9 (193, ct_174) := xctr_ok hu0 hang_0 hR9 hMT9 (b := 0) (ctL_ok (l := []) trivial) (mo_X11_trueScore rfl _) hc_174
theorem cc_175 {Ev : Env9} : CK Ev 18 (194, ct_175) := xctr_ok hu0 hang_0 hR9 hMT9 (b := 9) (ctL_ok (l := [(193, ct_174)]) (And.intro (CK_up cc_174 (by decide)) trivial)) (mo_X11_seen rfl _) hc_175
theorem cc_176 {Ev : Env9} : CK Ev 27 (285, ct_176) := xctr_ok hu0 hang_0 hR9 hMT9 (b := 18) (ctL_ok (l := [(194, ct_175)]) (And.intro (CK_up cc_175 (by decide)) trivial)) (mo_X11_seenScore rfl _) hc_176
theorem cc_177 {Ev : Env9} : CK Ev 27 (286, ct_177) := xctr_ok hu0 hang_0 hR9 hMT9 (b := 18) (ctL_ok (l := [(194, ct_175)]) (And.intro (CK_up cc_175 (by decide)) trivial)) (mo_X11_pairReason rfl _) hc_177
theorem cc_178 {Ev : Env9} : CK Ev 27 (196, ct_178) := xctr_ok hu0 hang_0 hR9 hMT9 (b := 18) (ctL_ok (l := [(194, ct_175)]) (And.intro (CK_up cc_175 (by decide)) trivial)) (mo_X11_isAcceptable rfl _) hc_178
theorem cc_179 {Ev : Env9} : CK Ev 9 (197, ct_179) := xctr_ok hu0 hang_0 hR9 hMT9 (b := 0) (ctL_ok (l := []) trivial) (mo_X11_isBetterValley rfl _) hc_179
theorem cc_180 {Ev : Env9} : CK Ev 36 (287, ct_180) := xctr_ok hu0 hang_0 hR9 hMT9 (b := 27) (ctL_ok (l := [(196, ct_178), (197, ct_179)]) (And.intro (CK_up cc_178 (by decide)) (And.intro (CK_up cc_179 (by decide)) trivial))) (mo_X11_valleyAt rfl _) hc_180
theorem cc_181 {Ev : Env9} : CK Ev 45 (288, ct_181) := xctr_ok hu0 hang_0 hR9 hMT9 (b := 36) (ctL_ok (l := [(287, ct_180)]) (And.intro (CK_up cc_180 (by decide)) trivial)) (mo_X11_preferredValley rfl _) hc_181
theorem cc_182 {Ev : Env9} : CK Ev 27 (198, ct_182) := xctr_ok hu0 hang_0 hR9 hMT9 (b := 18) (ctL_ok (l := [(194, ct_175)]) (And.intro (CK_up cc_175 (by decide)) trivial)) (mo_X11_isBetterEcho rfl _) hc_182
theorem cc_183 {Ev : Env9} : CK Ev 36 (289, ct_183) := xctr_ok hu0 hang_0 hR9 hMT9 (b := 27) (ctL_ok (l := [(196, ct_178), (198, ct_182)]) (And.intro (CK_up cc_178 (by decide)) (And.intro (CK_up cc_182 (by decide)) trivial))) (mo_X11_echoAt rfl _) hc_183
theorem cc_184 {Ev : Env9} : CK Ev 45 (290, ct_184) := xctr_ok hu0 hang_0 hR9 hMT9 (b := 36) (ctL_ok (l := [(289, ct_183)]) (And.intro (CK_up cc_183 (by decide)) trivial)) (mo_X11_preferredEcho rfl _) hc_184
theorem cc_185 {Ev : Env9} : CK Ev 36 (291, ct_185) := xctr_ok hu0 hang_0 hR9 hMT9 (b := 27) (ctL_ok (l := [(196, ct_178), (197, ct_179)]) (And.intro (CK_up cc_178 (by decide)) (And.intro (CK_up cc_179 (by decide)) trivial))) (mo_X11_wouldLeave rfl _) hc_185
theorem cc_186 {Ev : Env9} : CK Ev 36 (292, ct_186) := xctr_ok hu0 hang_0 hR9 hMT9 (b := 27) (ctL_ok (l := [(198, ct_182)]) (And.intro (CK_up cc_182 (by decide)) trivial)) (mo_X11_wouldTake rfl _) hc_186
theorem cc_187 {Ev : Env9} : CK Ev 45 (293, ct_187) := xctr_ok hu0 hang_0 hR9 hMT9 (b := 36) (ctL_ok (l := [(196, ct_178), (291, ct_185), (292, ct_186)]) (And.intro (CK_up cc_178 (by decide)) (And.intro (CK_up cc_185 (by decide)) (And.intro (CK_up cc_186 (by decide)) trivial)))) (mo_X11_isBlocking rfl _) hc_187
theorem cc_188 {Ev : Env9} : CK Ev 54 (294, ct_188) := xctr_ok hu0 hang_0 hR9 hMT9 (b := 45) (ctL_ok (l := [(293, ct_187)]) (And.intro (CK_up cc_187 (by decide)) trivial)) (mo_X11_blockingPairs rfl _) hc_188
theorem cc_192 {Ev : Env9} (hh_190 : CK Ev 60 (208, ct_190)) : CK Ev 69 (296, ct_192) := xctr_ok hu0 hang_0 hR9 hMT9 (b := 60) (ctL_ok (l := [(178, ct_189), (208, ct_190), (178, ct_191)]) (And.intro (CK_up hh_189 (by decide)) (And.intro (CK_up hh_190 (by decide)) (And.intro (CK_up hh_191 (by decide)) trivial)))) (mo_X11_fairResult rfl _) hc_192
theorem cc_195 {Ev : Env9} : CK Ev 9 (210, ct_195) := xctr_ok hu0 hang_0 hR9 hMT9 (b := 0) (ctL_ok (l := []) trivial) (mo_X11_earns rfl _) hc_195
theorem cc_196 {Ev : Env9} : CK Ev 9 (211, ct_196) := xctr_ok hu0 hang_0 hR9 hMT9 (b := 0) (ctL_ok (l := []) trivial) (mo_X11_pays rfl _) hc_196
theorem cc_198 {Ev : Env9} (hh_194 : CK Ev 80 (209, ct_194)) (hh_197 : CK Ev 40 (212, ct_197)) : CK Ev 89 (213, ct_198) := xctr_ok hu0 hang_0 hR9 hMT9 (b := 80) (ctL_ok (l := [(209, ct_194), (210, ct_195), (211, ct_196), (212, ct_197)]) (And.intro (CK_up hh_194 (by decide)) (And.intro (CK_up cc_195 (by decide)) (And.intro (CK_up cc_196 (by decide)) (And.intro (CK_up hh_197 (by decide)) trivial))))) (mo_X11_dayOnce rfl _) hc_198
theorem cc_199 {Ev : Env9} (hh_194 : CK Ev 80 (209, ct_194)) (hh_197 : CK Ev 40 (212, ct_197)) : CK Ev 98 (214, ct_199) := xctr_ok hu0 hang_0 hR9 hMT9 (b := 89) (ctL_ok (l := [(213, ct_198)]) (And.intro (CK_up (cc_198 hh_194 hh_197) (by decide)) trivial)) (mo_X11_goBy rfl _) hc_199
theorem cc_200 {Ev : Env9} (hh_194 : CK Ev 80 (209, ct_194)) (hh_197 : CK Ev 40 (212, ct_197)) : CK Ev 107 (298, ct_200) := xctr_ok hu0 hang_0 hR9 hMT9 (b := 98) (ctL_ok (l := [(178, ct_189), (178, ct_191), (214, ct_199)]) (And.intro (CK_up hh_189 (by decide)) (And.intro (CK_up hh_191 (by decide)) (And.intro (CK_up (cc_199 hh_194 hh_197) (by decide)) trivial)))) (mo_X11_savingsAfter rfl _) hc_200
theorem cc_201 {Ev : Env9} (hh_194 : CK Ev 80 (209, ct_194)) (hh_197 : CK Ev 40 (212, ct_197)) : CK Ev 107 (299, ct_201) := xctr_ok hu0 hang_0 hR9 hMT9 (b := 98) (ctL_ok (l := [(178, ct_189), (178, ct_191), (214, ct_199)]) (And.intro (CK_up hh_189 (by decide)) (And.intro (CK_up hh_191 (by decide)) (And.intro (CK_up (cc_199 hh_194 hh_197) (by decide)) trivial)))) (mo_X11_purseAfter rfl _) hc_201
theorem cc_202 {Ev : Env9} (hh_194 : CK Ev 80 (209, ct_194)) (hh_197 : CK Ev 40 (212, ct_197)) : CK Ev 98 (300, ct_202) := xctr_ok hu0 hang_0 hR9 hMT9 (b := 89) (ctL_ok (l := [(178, ct_189), (178, ct_191), (213, ct_198)]) (And.intro (CK_up hh_189 (by decide)) (And.intro (CK_up hh_191 (by decide)) (And.intro (CK_up (cc_198 hh_194 hh_197) (by decide)) trivial)))) (mo_X11_desertsIn rfl _) hc_202
theorem cc_203 {Ev : Env9} (hh_190 : CK Ev 60 (208, ct_190)) : CK Ev 69 (301, ct_203) := xctr_ok hu0 hang_0 hR9 hMT9 (b := 60) (ctL_ok (l := [(178, ct_189), (208, ct_190), (178, ct_191)]) (And.intro (CK_up hh_189 (by decide)) (And.intro (CK_up hh_190 (by decide)) (And.intro (CK_up hh_191 (by decide)) trivial)))) (mo_X11_leastWage rfl _) hc_203
theorem cc_204 {Ev : Env9} : CK Ev 9 (218, ct_204) := xctr_ok hu0 hang_0 hR9 hMT9 (b := 0) (ctL_ok (l := []) trivial) (mo_X11_canTest rfl _) hc_204
theorem cc_205 {Ev : Env9} : CK Ev 18 (302, ct_205) := xctr_ok hu0 hang_0 hR9 hMT9 (b := 9) (ctL_ok (l := [(193, ct_174), (218, ct_204)]) (And.intro (CK_up cc_174 (by decide)) (And.intro (CK_up cc_204 (by decide)) trivial))) (mo_X11_bestTest rfl _) hc_205
theorem cc_206 {Ev : Env9} : CK Ev 9 (303, ct_206) := xctr_ok hu0 hang_0 hR9 hMT9 (b := 0) (ctL_ok (l := []) trivial) (mo_X11_richestEcho rfl _) hc_206
theorem cc_207 {Ev : Env9} : CK Ev 9 (304, ct_207) := xctr_ok hu0 hang_0 hR9 hMT9 (b := 0) (ctL_ok (l := []) trivial) (mo_X11_daysServed rfl _) hc_207
theorem cc_208 {Ev : Env9} : CK Ev 9 (305, ct_208) := xctr_ok hu0 hang_0 hR9 hMT9 (b := 0) (ctL_ok (l := []) trivial) (mo_X11_contractsMade rfl _) hc_208
theorem cc_209 {Ev : Env9} : CK Ev 9 (306, ct_209) := xctr_ok hu0 hang_0 hR9 hMT9 (b := 0) (ctL_ok (l := []) trivial) (mo_X11_contractsEnded rfl _) hc_209
theorem cc_210 {Ev : Env9} : CK Ev 9 (307, ct_210) := xctr_ok hu0 hang_0 hR9 hMT9 (b := 0) (ctL_ok (l := []) trivial) (mo_X11_desertions rfl _) hc_210
theorem cc_211 {Ev : Env9} : CK Ev 9 (308, ct_211) := xctr_ok hu0 hang_0 hR9 hMT9 (b := 0) (ctL_ok (l := []) trivial) (mo_X11_repliesHeard rfl _) hc_211
theorem cc_212 {Ev : Env9} : CK Ev 9 (309, ct_212) := xctr_ok hu0 hang_0 hR9 hMT9 (b := 0) (ctL_ok (l := []) trivial) (mo_X11_wagesPaid rfl _) hc_212
theorem cc_213 {Ev : Env9} : CK Ev 9 (311, ct_213) := xctr_ok hu0 hang_0 hR9 hMT9 (b := 0) (ctL_ok (l := []) trivial) (mo_X11_purses rfl _) hc_213
theorem cc_214 {Ev : Env9} : CK Ev 9 (310, ct_214) := xctr_ok hu0 hang_0 hR9 hMT9 (b := 0) (ctL_ok (l := []) trivial) (mo_X11_savings rfl _) hc_214
theorem cc_215 {Ev : Env9} : CK Ev 18 (313, ct_215) := xctr_ok hu0 hang_0 hR9 hMT9 (b := 9) (ctL_ok (l := [(311, ct_213), (310, ct_214)]) (And.intro (CK_up cc_213 (by decide)) (And.intro (CK_up cc_214 (by decide)) trivial))) (mo_X11_moneyImbalance rfl _) hc_215
theorem cc_216 {Ev : Env9} : CK Ev 9 (312, ct_216) := xctr_ok hu0 hang_0 hR9 hMT9 (b := 0) (ctL_ok (l := []) trivial) (mo_X11_contracts rfl _) hc_216
theorem cc_217 {Ev : Env9} : CK Ev 18 (314, ct_217) := xctr_ok hu0 hang_0 hR9 hMT9 (b := 9) (ctL_ok (l := [(312, ct_216)]) (And.intro (CK_up cc_216 (by decide)) trivial)) (mo_X11_contractImbalance rfl _) hc_217
theorem cc_218 {Ev : Env9} : CK Ev 9 (315, ct_218) := xctr_ok hu0 hang_0 hR9 hMT9 (b := 0) (ctL_ok (l := []) trivial) (mo_X11_servedBy rfl _) hc_218
theorem cc_219 {Ev : Env9} : CK Ev 18 (316, ct_219) := xctr_ok hu0 hang_0 hR9 hMT9 (b := 9) (ctL_ok (l := [(315, ct_218)]) (And.intro (CK_up cc_218 (by decide)) trivial)) (mo_X11_doubleServants rfl _) hc_219
theorem cc_220 {Ev : Env9} : CK Ev 18 (317, ct_220) := xctr_ok hu0 hang_0 hR9 hMT9 (b := 9) (ctL_ok (l := [(310, ct_214)]) (And.intro (CK_up cc_214 (by decide)) trivial)) (mo_X11_meanSavings rfl _) hc_220
theorem cc_221 {Ev : Env9} : CK Ev 18 (318, ct_221) := xctr_ok hu0 hang_0 hR9 hMT9 (b := 9) (ctL_ok (l := [(312, ct_216)]) (And.intro (CK_up cc_216 (by decide)) trivial)) (mo_X11_employmentRate rfl _) hc_221
theorem cc_223 {Ev : Env9} : CK Ev 9 (215, ct_223) := xctr_ok hu0 hang_0 hR9 hMT9 (b := 0) (ctL_ok (l := []) trivial) (mo_X11_allLeft rfl _) hc_223
theorem cc_225 {Ev : Env9} (hh_194 : CK Ev 80 (209, ct_194)) (hh_197 : CK Ev 40 (212, ct_197)) (hh_224 : CK Ev 60 (258, ct_224)) : CK Ev 107 (321, ct_225) := xctr_ok hu0 hang_0 hR9 hMT9 (b := 98) (ctL_ok (l := [(214, ct_199), (178, ct_222), (215, ct_223), (258, ct_224)]) (And.intro (CK_up (cc_199 hh_194 hh_197) (by decide)) (And.intro (CK_up hh_222 (by decide)) (And.intro (CK_up cc_223 (by decide)) (And.intro (CK_up hh_224 (by decide)) trivial))))) (mo_X11_passDays rfl _) hc_225
theorem cc_226 {Ev : Env9} (hh_190 : CK Ev 60 (208, ct_190)) (hh_224 : CK Ev 60 (258, ct_224)) : CK Ev 69 (322, ct_226) := xctr_ok hu0 hang_0 hR9 hMT9 (b := 60) (ctL_ok (l := [(208, ct_190), (178, ct_222), (258, ct_224)]) (And.intro (CK_up hh_190 (by decide)) (And.intro (CK_up hh_222 (by decide)) (And.intro (CK_up hh_224 (by decide)) trivial)))) (mo_X11_holdFair rfl _) hc_226
theorem cc_227 {Ev : Env9} (hh_224 : CK Ev 60 (258, ct_224)) : CK Ev 69 (323, ct_227) := xctr_ok hu0 hang_0 hR9 hMT9 (b := 60) (ctL_ok (l := [(193, ct_174), (218, ct_204), (178, ct_222), (258, ct_224)]) (And.intro (CK_up cc_174 (by decide)) (And.intro (CK_up cc_204 (by decide)) (And.intro (CK_up hh_222 (by decide)) (And.intro (CK_up hh_224 (by decide)) trivial))))) (mo_X11_test rfl _) hc_227
theorem cc_229 {Ev : Env9} (hh_224 : CK Ev 60 (258, ct_224)) (hh_228 : CK Ev 40 (220, ct_228)) : CK Ev 69 (324, ct_229) := xctr_ok hu0 hang_0 hR9 hMT9 (b := 60) (ctL_ok (l := [(178, ct_222), (258, ct_224), (220, ct_228)]) (And.intro (CK_up hh_222 (by decide)) (And.intro (CK_up hh_224 (by decide)) (And.intro (CK_up hh_228 (by decide)) trivial)))) (mo_X11_dismiss rfl _) hc_229
theorem cc_230 {Ev : Env9} (hh_224 : CK Ev 60 (258, ct_224)) : CK Ev 69 (325, ct_230) := xctr_ok hu0 hang_0 hR9 hMT9 (b := 60) (ctL_ok (l := [(178, ct_222), (258, ct_224)]) (And.intro (CK_up hh_222 (by decide)) (And.intro (CK_up hh_224 (by decide)) trivial))) (mo_X11_setWage rfl _) hc_230
theorem cc_231 {Ev : Env9} (hh_224 : CK Ev 60 (258, ct_224)) : CK Ev 69 (326, ct_231) := xctr_ok hu0 hang_0 hR9 hMT9 (b := 60) (ctL_ok (l := [(178, ct_222), (258, ct_224)]) (And.intro (CK_up hh_222 (by decide)) (And.intro (CK_up hh_224 (by decide)) trivial))) (mo_X11_fund rfl _) hc_231
theorem cc_232 {Ev : Env9} (hh_224 : CK Ev 60 (258, ct_224)) : CK Ev 69 (327, ct_232) := xctr_ok hu0 hang_0 hR9 hMT9 (b := 60) (ctL_ok (l := [(178, ct_222), (258, ct_224)]) (And.intro (CK_up hh_222 (by decide)) (And.intro (CK_up hh_224 (by decide)) trivial))) (mo_X11_train rfl _) hc_232
theorem cc_233 {Ev : Env9} : CK Ev 9 (334, ct_233) := xctr_ok hu0 hang_0 hR9 hMT9 (b := 0) (ctL_ok (l := []) trivial) (mo_X11_outputByte rfl _) hc_233
