section
/-! every method is its numbers -/
theorem mq_N {y : Nat} : ∀ md, (none : Option MDT) = some md → MDOK bo9 y md := fun _ h => nomatch h
theorem mq_X0_add : ∀ md, (some (2, nb_X0_add, []) : Option MDT) = some md → MDOK bo9 1 md := fun md h => by cases h; exact mo_X0_add rfl _
theorem mq_X0_addInt : ∀ md, (some (2, nb_X0_addInt, []) : Option MDT) = some md → MDOK bo9 2 md := fun md h => by cases h; exact mo_X0_addInt rfl _
theorem mq_X0_addName : ∀ md, (some (5, nb_X0_addName, []) : Option MDT) = some md → MDOK bo9 3 md := fun md h => by cases h; exact mo_X0_addName rfl _
theorem mq_X0_byteAt : ∀ md, (some (2, nb_X0_byteAt, []) : Option MDT) = some md → MDOK bo9 4 md := fun md h => by cases h; exact mo_X0_byteAt rfl _
theorem mq_X0_nameAt : ∀ md, (some (7, nb_X0_nameAt, []) : Option MDT) = some md → MDOK bo9 5 md := fun md h => by cases h; exact mo_X0_nameAt rfl _
theorem mq_X1_parse : ∀ md, (some (4, nb_X1_parse, []) : Option MDT) = some md → MDOK bo9 7 md := fun md h => by cases h; exact mo_X1_parse rfl _
theorem mq_X1_verbRead : ∀ md, (some (1, nb_X1_verbRead, []) : Option MDT) = some md → MDOK bo9 8 md := fun md h => by cases h; exact mo_X1_verbRead rfl _
theorem mq_X1_takeParameters : ∀ md, (some (4, nb_X1_takeParameters, []) : Option MDT) = some md → MDOK bo9 9 md := fun md h => by cases h; exact mo_X1_takeParameters rfl _
theorem mq_X1_takeValleyAndMore : ∀ md, (some (4, nb_X1_takeValleyAndMore, []) : Option MDT) = some md → MDOK bo9 10 md := fun md h => by cases h; exact mo_X1_takeValleyAndMore rfl _
theorem mq_X2_parse : ∀ md, (some (2, nb_X2_parse, []) : Option MDT) = some md → MDOK bo9 12 md := fun md h => by cases h; exact mo_X2_parse rfl _
theorem mq_X2_isComplete : ∀ md, (some (1, nb_X2_isComplete, []) : Option MDT) = some md → MDOK bo9 13 md := fun md h => by cases h; exact mo_X2_isComplete rfl _
theorem mq_X2_takeSeason : ∀ md, (some (1, nb_X2_takeSeason, []) : Option MDT) = some md → MDOK bo9 14 md := fun md h => by cases h; exact mo_X2_takeSeason rfl _
theorem mq_X2_takeFog : ∀ md, (some (2, nb_X2_takeFog, []) : Option MDT) = some md → MDOK bo9 15 md := fun md h => by cases h; exact mo_X2_takeFog rfl _
theorem mq_X2_takeStatement : ∀ md, (some (1, nb_X2_takeStatement, []) : Option MDT) = some md → MDOK bo9 16 md := fun md h => by cases h; exact mo_X2_takeStatement rfl _
theorem mq_X2_takeNewEcho : ∀ md, (some (2, nb_X2_takeNewEcho, []) : Option MDT) = some md → MDOK bo9 17 md := fun md h => by cases h; exact mo_X2_takeNewEcho rfl _
theorem mq_X2_takeNewValley : ∀ md, (some (2, nb_X2_takeNewValley, []) : Option MDT) = some md → MDOK bo9 18 md := fun md h => by cases h; exact mo_X2_takeNewValley rfl _
theorem mq_X2_takeTest : ∀ md, (some (2, nb_X2_takeTest, []) : Option MDT) = some md → MDOK bo9 19 md := fun md h => by cases h; exact mo_X2_takeTest rfl _
theorem mq_X3_start : ∀ md, (some (3, nb_X3_start, []) : Option MDT) = some md → MDOK bo9 21 md := fun md h => by cases h; exact mo_X3_start rfl _
theorem mq_X3_copyFrom : ∀ md, (some (2, nb_X3_copyFrom, []) : Option MDT) = some md → MDOK bo9 22 md := fun md h => by cases h; exact mo_X3_copyFrom rfl _
theorem mq_X3_lessonPrice : ∀ md, (some (1, nb_X3_lessonPrice, []) : Option MDT) = some md → MDOK bo9 23 md := fun md h => by cases h; exact mo_X3_lessonPrice rfl _
theorem mq_X3_canLearn : ∀ md, (some (1, nb_X3_canLearn, []) : Option MDT) = some md → MDOK bo9 24 md := fun md h => by cases h; exact mo_X3_canLearn rfl _
theorem mq_X3_leavesIn : ∀ md, (some (2, nb_X3_leavesIn, []) : Option MDT) = some md → MDOK bo9 25 md := fun md h => by cases h; exact mo_X3_leavesIn rfl _
theorem mq_X4_push : ∀ md, (some (2, nb_X4_push, []) : Option MDT) = some md → MDOK bo9 27 md := fun md h => by cases h; exact mo_X4_push rfl _
theorem mq_X4_pop : ∀ md, (some (2, nb_X4_pop, []) : Option MDT) = some md → MDOK bo9 28 md := fun md h => by cases h; exact mo_X4_pop rfl _
theorem mq_X5_hold : ∀ md, (some (5, nb_X5_hold, []) : Option MDT) = some md → MDOK bo9 30 md := fun md h => by cases h; exact mo_X5_hold rfl _
theorem mq_X5_enrol : ∀ md, (some (3, nb_X5_enrol, []) : Option MDT) = some md → MDOK bo9 31 md := fun md h => by cases h; exact mo_X5_enrol rfl _
theorem mq_X5_weigh : ∀ md, (some (5, nb_X5_weigh, []) : Option MDT) = some md → MDOK bo9 32 md := fun md h => by cases h; exact mo_X5_weigh rfl _
theorem mq_X5_enqueue : ∀ md, (some (2, nb_X5_enqueue, []) : Option MDT) = some md → MDOK bo9 33 md := fun md h => by cases h; exact mo_X5_enqueue rfl _
theorem mq_X5_favourite : ∀ md, (some (6, nb_X5_favourite, []) : Option MDT) = some md → MDOK bo9 34 md := fun md h => by cases h; exact mo_X5_favourite rfl _
theorem mq_X5_apply : ∀ md, (some (5, nb_X5_apply, []) : Option MDT) = some md → MDOK bo9 35 md := fun md h => by cases h; exact mo_X5_apply rfl _
theorem mq_X5_leastKept : ∀ md, (some (5, nb_X5_leastKept, []) : Option MDT) = some md → MDOK bo9 36 md := fun md h => by cases h; exact mo_X5_leastKept rfl _
theorem mq_X5_prefers : ∀ md, (some (6, nb_X5_prefers, []) : Option MDT) = some md → MDOK bo9 37 md := fun md h => by cases h; exact mo_X5_prefers rfl _
theorem mq_X5_sign : ∀ md, (some (5, nb_X5_sign, []) : Option MDT) = some md → MDOK bo9 38 md := fun md h => by cases h; exact mo_X5_sign rfl _
theorem mq_X6_copyFrom : ∀ md, (some (2, nb_X6_copyFrom, []) : Option MDT) = some md → MDOK bo9 40 md := fun md h => by cases h; exact mo_X6_copyFrom rfl _
theorem mq_X6_startsOn : ∀ md, (some (2, nb_X6_startsOn, []) : Option MDT) = some md → MDOK bo9 41 md := fun md h => by cases h; exact mo_X6_startsOn rfl _
theorem mq_X6_fogOn : ∀ md, (some (2, nb_X6_fogOn, []) : Option MDT) = some md → MDOK bo9 42 md := fun md h => by cases h; exact mo_X6_fogOn rfl _
theorem mq_X6_addLevel : ∀ md, (some (2, nb_X6_addLevel, []) : Option MDT) = some md → MDOK bo9 43 md := fun md h => by cases h; exact mo_X6_addLevel rfl _
theorem mq_X7_begin : ∀ md, (some (1, nb_X7_begin, []) : Option MDT) = some md → MDOK bo9 45 md := fun md h => by cases h; exact mo_X7_begin rfl _
theorem mq_X7_fail : ∀ md, (some (2, nb_X7_fail, []) : Option MDT) = some md → MDOK bo9 46 md := fun md h => by cases h; exact mo_X7_fail rfl _
theorem mq_X7_kindOf : ∀ md, (some (1, nb_X7_kindOf, []) : Option MDT) = some md → MDOK bo9 47 md := fun md h => by cases h; exact mo_X7_kindOf rfl _
theorem mq_X7_next : ∀ md, (some (2, nb_X7_next, []) : Option MDT) = some md → MDOK bo9 48 md := fun md h => by cases h; exact mo_X7_next rfl _
theorem mq_X7_wordIs : ∀ md, (some (3, nb_X7_wordIs, []) : Option MDT) = some md → MDOK bo9 49 md := fun md h => by cases h; exact mo_X7_wordIs rfl _
theorem mq_X7_name : ∀ md, (some (1, nb_X7_name, []) : Option MDT) = some md → MDOK bo9 50 md := fun md h => by cases h; exact mo_X7_name rfl _
theorem mq_X7_takeWord : ∀ md, (some (2, nb_X7_takeWord, []) : Option MDT) = some md → MDOK bo9 51 md := fun md h => by cases h; exact mo_X7_takeWord rfl _
theorem mq_X7_takeSemicolon : ∀ md, (some (1, nb_X7_takeSemicolon, []) : Option MDT) = some md → MDOK bo9 52 md := fun md h => by cases h; exact mo_X7_takeSemicolon rfl _
theorem mq_X7_isName : ∀ md, (some (1, nb_X7_isName, []) : Option MDT) = some md → MDOK bo9 53 md := fun md h => by cases h; exact mo_X7_isName rfl _
theorem mq_X7_takeName : ∀ md, (some (1, nb_X7_takeName, []) : Option MDT) = some md → MDOK bo9 54 md := fun md h => by cases h; exact mo_X7_takeName rfl _
theorem mq_X7_takeNumber : ∀ md, (some (3, nb_X7_takeNumber, []) : Option MDT) = some md → MDOK bo9 55 md := fun md h => by cases h; exact mo_X7_takeNumber rfl _
theorem mq_X7_checkNumber : ∀ md, (some (3, nb_X7_checkNumber, []) : Option MDT) = some md → MDOK bo9 56 md := fun md h => by cases h; exact mo_X7_checkNumber rfl _
theorem mq_X7_takeEcho : ∀ md, (some (2, nb_X7_takeEcho, []) : Option MDT) = some md → MDOK bo9 57 md := fun md h => by cases h; exact mo_X7_takeEcho rfl _
theorem mq_X7_takeValley : ∀ md, (some (2, nb_X7_takeValley, []) : Option MDT) = some md → MDOK bo9 58 md := fun md h => by cases h; exact mo_X7_takeValley rfl _
theorem mq_X8_start : ∀ md, (some (4, nb_X8_start, []) : Option MDT) = some md → MDOK bo9 60 md := fun md h => by cases h; exact mo_X8_start rfl _
theorem mq_X8_copyFrom : ∀ md, (some (2, nb_X8_copyFrom, []) : Option MDT) = some md → MDOK bo9 61 md := fun md h => by cases h; exact mo_X8_copyFrom rfl _
theorem mq_X8_hasTested : ∀ md, (some (2, nb_X8_hasTested, []) : Option MDT) = some md → MDOK bo9 62 md := fun md h => by cases h; exact mo_X8_hasTested rfl _
theorem mq_X8_noteTest : ∀ md, (some (2, nb_X8_noteTest, []) : Option MDT) = some md → MDOK bo9 63 md := fun md h => by cases h; exact mo_X8_noteTest rfl _
theorem mq_X8_hasLost : ∀ md, (some (2, nb_X8_hasLost, []) : Option MDT) = some md → MDOK bo9 64 md := fun md h => by cases h; exact mo_X8_hasLost rfl _
theorem mq_X8_hasFreePost : ∀ md, (some (1, nb_X8_hasFreePost, []) : Option MDT) = some md → MDOK bo9 65 md := fun md h => by cases h; exact mo_X8_hasFreePost rfl _
theorem mq_X8_hire : ∀ md, (some (2, nb_X8_hire, []) : Option MDT) = some md → MDOK bo9 66 md := fun md h => by cases h; exact mo_X8_hire rfl _
theorem mq_X8_release : ∀ md, (some (4, nb_X8_release, []) : Option MDT) = some md → MDOK bo9 67 md := fun md h => by cases h; exact mo_X8_release rfl _
theorem mq_X9_clear : ∀ md, (some (1, nb_X9_clear, []) : Option MDT) = some md → MDOK bo9 69 md := fun md h => by cases h; exact mo_X9_clear rfl _
theorem mq_X9_copyFrom : ∀ md, (some (3, nb_X9_copyFrom, []) : Option MDT) = some md → MDOK bo9 70 md := fun md h => by cases h; exact mo_X9_copyFrom rfl _
theorem mq_X9_echoNamed : ∀ md, (some (4, nb_X9_echoNamed, []) : Option MDT) = some md → MDOK bo9 71 md := fun md h => by cases h; exact mo_X9_echoNamed rfl _
theorem mq_X9_valleyNamed : ∀ md, (some (4, nb_X9_valleyNamed, []) : Option MDT) = some md → MDOK bo9 72 md := fun md h => by cases h; exact mo_X9_valleyNamed rfl _
theorem mq_X9_trueScore : ∀ md, (some (4, nb_X9_trueScore, []) : Option MDT) = some md → MDOK bo9 73 md := fun md h => by cases h; exact mo_X9_trueScore rfl _
theorem mq_X9_scoreSeen : ∀ md, (some (3, nb_X9_scoreSeen, []) : Option MDT) = some md → MDOK bo9 74 md := fun md h => by cases h; exact mo_X9_scoreSeen rfl _
theorem mq_X9_reasonAt : ∀ md, (some (4, nb_X9_reasonAt, []) : Option MDT) = some md → MDOK bo9 75 md := fun md h => by cases h; exact mo_X9_reasonAt rfl _
theorem mq_X9_isAcceptable : ∀ md, (some (3, nb_X9_isAcceptable, []) : Option MDT) = some md → MDOK bo9 76 md := fun md h => by cases h; exact mo_X9_isAcceptable rfl _
theorem mq_X9_paysBetter : ∀ md, (some (5, nb_X9_paysBetter, []) : Option MDT) = some md → MDOK bo9 77 md := fun md h => by cases h; exact mo_X9_paysBetter rfl _
theorem mq_X9_prefersEcho : ∀ md, (some (6, nb_X9_prefersEcho, []) : Option MDT) = some md → MDOK bo9 78 md := fun md h => by cases h; exact mo_X9_prefersEcho rfl _
theorem mq_X9_rankOfValley : ∀ md, (some (5, nb_X9_rankOfValley, []) : Option MDT) = some md → MDOK bo9 79 md := fun md h => by cases h; exact mo_X9_rankOfValley rfl _
theorem mq_X9_rankOfEcho : ∀ md, (some (5, nb_X9_rankOfEcho, []) : Option MDT) = some md → MDOK bo9 80 md := fun md h => by cases h; exact mo_X9_rankOfEcho rfl _
theorem mq_X9_isBlocking : ∀ md, (some (3, nb_X9_isBlocking, []) : Option MDT) = some md → MDOK bo9 81 md := fun md h => by cases h; exact mo_X9_isBlocking rfl _
theorem mq_X9_wouldMove : ∀ md, (some (4, nb_X9_wouldMove, []) : Option MDT) = some md → MDOK bo9 82 md := fun md h => by cases h; exact mo_X9_wouldMove rfl _
theorem mq_X9_wouldTake : ∀ md, (some (5, nb_X9_wouldTake, []) : Option MDT) = some md → MDOK bo9 83 md := fun md h => by cases h; exact mo_X9_wouldTake rfl _
theorem mq_X9_canTest : ∀ md, (some (3, nb_X9_canTest, []) : Option MDT) = some md → MDOK bo9 84 md := fun md h => by cases h; exact mo_X9_canTest rfl _
theorem mq_X9_employ : ∀ md, (some (3, nb_X9_employ, []) : Option MDT) = some md → MDOK bo9 85 md := fun md h => by cases h; exact mo_X9_employ rfl _
theorem mq_X9_endContract : ∀ md, (some (3, nb_X9_endContract, []) : Option MDT) = some md → MDOK bo9 86 md := fun md h => by cases h; exact mo_X9_endContract rfl _
theorem mq_X9_endSeason : ∀ md, (some (2, nb_X9_endSeason, []) : Option MDT) = some md → MDOK bo9 87 md := fun md h => by cases h; exact mo_X9_endSeason rfl _
theorem mq_X9_work : ∀ md, (some (2, nb_X9_work, []) : Option MDT) = some md → MDOK bo9 88 md := fun md h => by cases h; exact mo_X9_work rfl _
theorem mq_X9_hearReplies : ∀ md, (some (5, nb_X9_hearReplies, []) : Option MDT) = some md → MDOK bo9 89 md := fun md h => by cases h; exact mo_X9_hearReplies rfl _
theorem mq_X9_payStaff : ∀ md, (some (5, nb_X9_payStaff, []) : Option MDT) = some md → MDOK bo9 90 md := fun md h => by cases h; exact mo_X9_payStaff rfl _
theorem mq_X9_desert : ∀ md, (some (5, nb_X9_desert, []) : Option MDT) = some md → MDOK bo9 91 md := fun md h => by cases h; exact mo_X9_desert rfl _
theorem mq_X9_putMoney : ∀ md, (some (3, nb_X9_putMoney, []) : Option MDT) = some md → MDOK bo9 92 md := fun md h => by cases h; exact mo_X9_putMoney rfl _
theorem mq_X9_teach : ∀ md, (some (3, nb_X9_teach, []) : Option MDT) = some md → MDOK bo9 93 md := fun md h => by cases h; exact mo_X9_teach rfl _
theorem mq_X9_moneyInPurses : ∀ md, (some (3, nb_X9_moneyInPurses, []) : Option MDT) = some md → MDOK bo9 94 md := fun md h => by cases h; exact mo_X9_moneyInPurses rfl _
theorem mq_X9_moneySaved : ∀ md, (some (3, nb_X9_moneySaved, []) : Option MDT) = some md → MDOK bo9 95 md := fun md h => by cases h; exact mo_X9_moneySaved rfl _
theorem mq_X9_contracts : ∀ md, (some (3, nb_X9_contracts, []) : Option MDT) = some md → MDOK bo9 96 md := fun md h => by cases h; exact mo_X9_contracts rfl _
theorem mq_X9_valleysServedBy : ∀ md, (some (5, nb_X9_valleysServedBy, []) : Option MDT) = some md → MDOK bo9 97 md := fun md h => by cases h; exact mo_X9_valleysServedBy rfl _
theorem mq_X10_append : ∀ md, (some (6, nb_X10_append, []) : Option MDT) = some md → MDOK bo9 99 md := fun md h => by cases h; exact mo_X10_append rfl _
theorem mq_X10_truncate : ∀ md, (some (2, nb_X10_truncate, []) : Option MDT) = some md → MDOK bo9 100 md := fun md h => by cases h; exact mo_X10_truncate rfl _
theorem mq_X10_load : ∀ md, (some (2, nb_X10_load, []) : Option MDT) = some md → MDOK bo9 101 md := fun md h => by cases h; exact mo_X10_load rfl _
theorem mq_X10_executeCommands : ∀ md, (some (3, nb_X10_executeCommands, []) : Option MDT) = some md → MDOK bo9 102 md := fun md h => by cases h; exact mo_X10_executeCommands rfl _
theorem mq_X10_errorCode : ∀ md, (some (1, nb_X10_errorCode, []) : Option MDT) = some md → MDOK bo9 103 md := fun md h => by cases h; exact mo_X10_errorCode rfl _
theorem mq_X10_errorPosition : ∀ md, (some (1, nb_X10_errorPosition, []) : Option MDT) = some md → MDOK bo9 104 md := fun md h => by cases h; exact mo_X10_errorPosition rfl _
theorem mq_X10_echoCount : ∀ md, (some (1, nb_X10_echoCount, []) : Option MDT) = some md → MDOK bo9 105 md := fun md h => by cases h; exact mo_X10_echoCount rfl _
theorem mq_X10_valleyCount : ∀ md, (some (1, nb_X10_valleyCount, []) : Option MDT) = some md → MDOK bo9 106 md := fun md h => by cases h; exact mo_X10_valleyCount rfl _
theorem mq_X10_day : ∀ md, (some (1, nb_X10_day, []) : Option MDT) = some md → MDOK bo9 107 md := fun md h => by cases h; exact mo_X10_day rfl _
theorem mq_X10_seasonLength : ∀ md, (some (1, nb_X10_seasonLength, []) : Option MDT) = some md → MDOK bo9 108 md := fun md h => by cases h; exact mo_X10_seasonLength rfl _
theorem mq_X10_fogOf : ∀ md, (some (2, nb_X10_fogOf, []) : Option MDT) = some md → MDOK bo9 109 md := fun md h => by cases h; exact mo_X10_fogOf rfl _
theorem mq_X10_findEcho : ∀ md, (some (1, nb_X10_findEcho, []) : Option MDT) = some md → MDOK bo9 110 md := fun md h => by cases h; exact mo_X10_findEcho rfl _
theorem mq_X10_findValley : ∀ md, (some (1, nb_X10_findValley, []) : Option MDT) = some md → MDOK bo9 111 md := fun md h => by cases h; exact mo_X10_findValley rfl _
theorem mq_X10_delayOf : ∀ md, (some (2, nb_X10_delayOf, []) : Option MDT) = some md → MDOK bo9 112 md := fun md h => by cases h; exact mo_X10_delayOf rfl _
theorem mq_X10_repeatsOf : ∀ md, (some (2, nb_X10_repeatsOf, []) : Option MDT) = some md → MDOK bo9 113 md := fun md h => by cases h; exact mo_X10_repeatsOf rfl _
theorem mq_X10_reserveWage : ∀ md, (some (2, nb_X10_reserveWage, []) : Option MDT) = some md → MDOK bo9 114 md := fun md h => by cases h; exact mo_X10_reserveWage rfl _
theorem mq_X10_resistanceOf : ∀ md, (some (2, nb_X10_resistanceOf, []) : Option MDT) = some md → MDOK bo9 115 md := fun md h => by cases h; exact mo_X10_resistanceOf rfl _
theorem mq_X10_savingsOf : ∀ md, (some (2, nb_X10_savingsOf, []) : Option MDT) = some md → MDOK bo9 116 md := fun md h => by cases h; exact mo_X10_savingsOf rfl _
theorem mq_X10_unpaidDays : ∀ md, (some (2, nb_X10_unpaidDays, []) : Option MDT) = some md → MDOK bo9 117 md := fun md h => by cases h; exact mo_X10_unpaidDays rfl _
theorem mq_X10_employerOf : ∀ md, (some (2, nb_X10_employerOf, []) : Option MDT) = some md → MDOK bo9 118 md := fun md h => by cases h; exact mo_X10_employerOf rfl _
theorem mq_X10_widthOf : ∀ md, (some (2, nb_X10_widthOf, []) : Option MDT) = some md → MDOK bo9 119 md := fun md h => by cases h; exact mo_X10_widthOf rfl _
theorem mq_X10_postsOf : ∀ md, (some (2, nb_X10_postsOf, []) : Option MDT) = some md → MDOK bo9 120 md := fun md h => by cases h; exact mo_X10_postsOf rfl _
theorem mq_X10_wageOf : ∀ md, (some (2, nb_X10_wageOf, []) : Option MDT) = some md → MDOK bo9 121 md := fun md h => by cases h; exact mo_X10_wageOf rfl _
theorem mq_X10_purseOf : ∀ md, (some (2, nb_X10_purseOf, []) : Option MDT) = some md → MDOK bo9 122 md := fun md h => by cases h; exact mo_X10_purseOf rfl _
theorem mq_X10_staffCount : ∀ md, (some (2, nb_X10_staffCount, []) : Option MDT) = some md → MDOK bo9 123 md := fun md h => by cases h; exact mo_X10_staffCount rfl _
theorem mq_X10_staffMember : ∀ md, (some (4, nb_X10_staffMember, []) : Option MDT) = some md → MDOK bo9 124 md := fun md h => by cases h; exact mo_X10_staffMember rfl _
theorem mq_X10_isTested : ∀ md, (some (3, nb_X10_isTested, []) : Option MDT) = some md → MDOK bo9 125 md := fun md h => by cases h; exact mo_X10_isTested rfl _
theorem mq_X10_seenScore : ∀ md, (some (3, nb_X10_seenScore, []) : Option MDT) = some md → MDOK bo9 126 md := fun md h => by cases h; exact mo_X10_seenScore rfl _
theorem mq_X10_pairReason : ∀ md, (some (3, nb_X10_pairReason, []) : Option MDT) = some md → MDOK bo9 127 md := fun md h => by cases h; exact mo_X10_pairReason rfl _
theorem mq_X10_preferredValley : ∀ md, (some (4, nb_X10_preferredValley, []) : Option MDT) = some md → MDOK bo9 128 md := fun md h => by cases h; exact mo_X10_preferredValley rfl _
theorem mq_X10_preferredEcho : ∀ md, (some (4, nb_X10_preferredEcho, []) : Option MDT) = some md → MDOK bo9 129 md := fun md h => by cases h; exact mo_X10_preferredEcho rfl _
theorem mq_X10_blockingPairs : ∀ md, (some (4, nb_X10_blockingPairs, []) : Option MDT) = some md → MDOK bo9 130 md := fun md h => by cases h; exact mo_X10_blockingPairs rfl _
theorem mq_X10_fairResult : ∀ md, (some (2, nb_X10_fairResult, []) : Option MDT) = some md → MDOK bo9 131 md := fun md h => by cases h; exact mo_X10_fairResult rfl _
theorem mq_X10_savingsAfter : ∀ md, (some (3, nb_X10_savingsAfter, []) : Option MDT) = some md → MDOK bo9 132 md := fun md h => by cases h; exact mo_X10_savingsAfter rfl _
theorem mq_X10_purseAfter : ∀ md, (some (3, nb_X10_purseAfter, []) : Option MDT) = some md → MDOK bo9 133 md := fun md h => by cases h; exact mo_X10_purseAfter rfl _
theorem mq_X10_desertsIn : ∀ md, (some (4, nb_X10_desertsIn, []) : Option MDT) = some md → MDOK bo9 134 md := fun md h => by cases h; exact mo_X10_desertsIn rfl _
theorem mq_X10_leastWage : ∀ md, (some (4, nb_X10_leastWage, []) : Option MDT) = some md → MDOK bo9 135 md := fun md h => by cases h; exact mo_X10_leastWage rfl _
theorem mq_X10_bestTest : ∀ md, (some (6, nb_X10_bestTest, []) : Option MDT) = some md → MDOK bo9 136 md := fun md h => by cases h; exact mo_X10_bestTest rfl _
theorem mq_X10_richestEcho : ∀ md, (some (3, nb_X10_richestEcho, []) : Option MDT) = some md → MDOK bo9 137 md := fun md h => by cases h; exact mo_X10_richestEcho rfl _
theorem mq_X10_daysServed : ∀ md, (some (3, nb_X10_daysServed, []) : Option MDT) = some md → MDOK bo9 138 md := fun md h => by cases h; exact mo_X10_daysServed rfl _
theorem mq_X10_contractsMade : ∀ md, (some (1, nb_X10_contractsMade, []) : Option MDT) = some md → MDOK bo9 139 md := fun md h => by cases h; exact mo_X10_contractsMade rfl _
theorem mq_X10_contractsEnded : ∀ md, (some (1, nb_X10_contractsEnded, []) : Option MDT) = some md → MDOK bo9 140 md := fun md h => by cases h; exact mo_X10_contractsEnded rfl _
theorem mq_X10_desertions : ∀ md, (some (2, nb_X10_desertions, []) : Option MDT) = some md → MDOK bo9 141 md := fun md h => by cases h; exact mo_X10_desertions rfl _
theorem mq_X10_repliesHeard : ∀ md, (some (2, nb_X10_repliesHeard, []) : Option MDT) = some md → MDOK bo9 142 md := fun md h => by cases h; exact mo_X10_repliesHeard rfl _
theorem mq_X10_wagesPaid : ∀ md, (some (2, nb_X10_wagesPaid, []) : Option MDT) = some md → MDOK bo9 143 md := fun md h => by cases h; exact mo_X10_wagesPaid rfl _
theorem mq_X10_moneyImbalance : ∀ md, (some (1, nb_X10_moneyImbalance, []) : Option MDT) = some md → MDOK bo9 144 md := fun md h => by cases h; exact mo_X10_moneyImbalance rfl _
theorem mq_X10_contractImbalance : ∀ md, (some (1, nb_X10_contractImbalance, []) : Option MDT) = some md → MDOK bo9 145 md := fun md h => by cases h; exact mo_X10_contractImbalance rfl _
theorem mq_X10_doubleServants : ∀ md, (some (3, nb_X10_doubleServants, []) : Option MDT) = some md → MDOK bo9 146 md := fun md h => by cases h; exact mo_X10_doubleServants rfl _
theorem mq_X10_meanSavings : ∀ md, (some (1, nb_X10_meanSavings, []) : Option MDT) = some md → MDOK bo9 147 md := fun md h => by cases h; exact mo_X10_meanSavings rfl _
theorem mq_X10_employmentRate : ∀ md, (some (3, nb_X10_employmentRate, []) : Option MDT) = some md → MDOK bo9 148 md := fun md h => by cases h; exact mo_X10_employmentRate rfl _
theorem mq_X10_passDays : ∀ md, (some (2, nb_X10_passDays, []) : Option MDT) = some md → MDOK bo9 149 md := fun md h => by cases h; exact mo_X10_passDays rfl _
theorem mq_X10_holdFair : ∀ md, (some (1, nb_X10_holdFair, []) : Option MDT) = some md → MDOK bo9 150 md := fun md h => by cases h; exact mo_X10_holdFair rfl _
theorem mq_X10_test : ∀ md, (some (3, nb_X10_test, []) : Option MDT) = some md → MDOK bo9 151 md := fun md h => by cases h; exact mo_X10_test rfl _
theorem mq_X10_dismiss : ∀ md, (some (3, nb_X10_dismiss, []) : Option MDT) = some md → MDOK bo9 152 md := fun md h => by cases h; exact mo_X10_dismiss rfl _
theorem mq_X10_setWage : ∀ md, (some (5, nb_X10_setWage, []) : Option MDT) = some md → MDOK bo9 153 md := fun md h => by cases h; exact mo_X10_setWage rfl _
theorem mq_X10_fund : ∀ md, (some (4, nb_X10_fund, []) : Option MDT) = some md → MDOK bo9 154 md := fun md h => by cases h; exact mo_X10_fund rfl _
theorem mq_X10_train : ∀ md, (some (3, nb_X10_train, []) : Option MDT) = some md → MDOK bo9 155 md := fun md h => by cases h; exact mo_X10_train rfl _
theorem mq_X10_undo : ∀ md, (some (1, nb_X10_undo, []) : Option MDT) = some md → MDOK bo9 156 md := fun md h => by cases h; exact mo_X10_undo rfl _
theorem mq_X10_save : ∀ md, (some (1, nb_X10_save, []) : Option MDT) = some md → MDOK bo9 157 md := fun md h => by cases h; exact mo_X10_save rfl _
theorem mq_X10_restore : ∀ md, (some (1, nb_X10_restore, []) : Option MDT) = some md → MDOK bo9 158 md := fun md h => by cases h; exact mo_X10_restore rfl _
theorem mq_X10_formatContracts : ∀ md, (some (2, nb_X10_formatContracts, []) : Option MDT) = some md → MDOK bo9 159 md := fun md h => by cases h; exact mo_X10_formatContracts rfl _
theorem mq_X10_outputByte : ∀ md, (some (2, nb_X10_outputByte, []) : Option MDT) = some md → MDOK bo9 160 md := fun md h => by cases h; exact mo_X10_outputByte rfl _
theorem mq_X10_requireEcho : ∀ md, (some (2, nb_X10_requireEcho, []) : Option MDT) = some md → MDOK bo9 161 md := fun md h => by cases h; exact mo_X10_requireEcho rfl _
theorem mq_X10_requireValley : ∀ md, (some (2, nb_X10_requireValley, []) : Option MDT) = some md → MDOK bo9 162 md := fun md h => by cases h; exact mo_X10_requireValley rfl _
theorem mq_X10_requirePair : ∀ md, (some (3, nb_X10_requirePair, []) : Option MDT) = some md → MDOK bo9 163 md := fun md h => by cases h; exact mo_X10_requirePair rfl _
theorem mq_X10_echoAt : ∀ md, (some (2, nb_X10_echoAt, []) : Option MDT) = some md → MDOK bo9 164 md := fun md h => by cases h; exact mo_X10_echoAt rfl _
theorem mq_X10_valleyAt : ∀ md, (some (2, nb_X10_valleyAt, []) : Option MDT) = some md → MDOK bo9 165 md := fun md h => by cases h; exact mo_X10_valleyAt rfl _
theorem mq_X10_adoptDraft : ∀ md, (some (1, nb_X10_adoptDraft, []) : Option MDT) = some md → MDOK bo9 166 md := fun md h => by cases h; exact mo_X10_adoptDraft rfl _
theorem mq_X10_noteErrors : ∀ md, (some (1, nb_X10_noteErrors, []) : Option MDT) = some md → MDOK bo9 167 md := fun md h => by cases h; exact mo_X10_noteErrors rfl _
theorem mq_X10_simulate : ∀ md, (some (2, nb_X10_simulate, []) : Option MDT) = some md → MDOK bo9 168 md := fun md h => by cases h; exact mo_X10_simulate rfl _
theorem mq_X10_letDaysPass : ∀ md, (some (5, nb_X10_letDaysPass, []) : Option MDT) = some md → MDOK bo9 169 md := fun md h => by cases h; exact mo_X10_letDaysPass rfl _
theorem mq_X10_perform : ∀ md, (some (4, nb_X10_perform, []) : Option MDT) = some md → MDOK bo9 170 md := fun md h => by cases h; exact mo_X10_perform rfl _
theorem mq_X10_writeContracts : ∀ md, (some (3, nb_X10_writeContracts, []) : Option MDT) = some md → MDOK bo9 171 md := fun md h => by cases h; exact mo_X10_writeContracts rfl _
theorem mq_X11_in : ∀ md, (some (6, nb_X11_in, []) : Option MDT) = some md → MDOK bo9 174 md := fun md h => by cases h; exact mo_X11_in rfl _
theorem mq_X11_truth : ∀ md, (some (1, nb_X11_truth, []) : Option MDT) = some md → MDOK bo9 175 md := fun md h => by cases h; exact mo_X11_truth rfl _
theorem mq_X11_passes : ∀ md, (some (2, nb_X11_passes, []) : Option MDT) = some md → MDOK bo9 176 md := fun md h => by cases h; exact mo_X11_passes rfl _
theorem mq_X11_passesBoth : ∀ md, (some (3, nb_X11_passesBoth, []) : Option MDT) = some md → MDOK bo9 177 md := fun md h => by cases h; exact mo_X11_passesBoth rfl _
theorem mq_X11_copies : ∀ md, (some (5, nb_X11_copies, []) : Option MDT) = some md → MDOK bo9 178 md := fun md h => by cases h; exact mo_X11_copies rfl _
theorem mq_X11_tries : ∀ md, (some (1, nb_X11_tries, []) : Option MDT) = some md → MDOK bo9 179 md := fun md h => by cases h; exact mo_X11_tries rfl _
theorem mq_X11_laidBack : ∀ md, (some (2, nb_X11_laidBack, []) : Option MDT) = some md → MDOK bo9 180 md := fun md h => by cases h; exact mo_X11_laidBack rfl _
theorem mq_X11_of : ∀ md, (some (3, nb_X11_of, []) : Option MDT) = some md → MDOK bo9 181 md := fun md h => by cases h; exact mo_X11_of rfl _
theorem mq_X11_puts : ∀ md, (some (4, nb_X11_puts, []) : Option MDT) = some md → MDOK bo9 182 md := fun md h => by cases h; exact mo_X11_puts rfl _
theorem mq_X11_ofValley : ∀ md, (some (3, nb_X11_ofValley, []) : Option MDT) = some md → MDOK bo9 183 md := fun md h => by cases h; exact mo_X11_ofValley rfl _
theorem mq_X11_putsValley : ∀ md, (some (4, nb_X11_putsValley, []) : Option MDT) = some md → MDOK bo9 184 md := fun md h => by cases h; exact mo_X11_putsValley rfl _
theorem mq_X11_pair : ∀ md, (some (3, nb_X11_pair, []) : Option MDT) = some md → MDOK bo9 185 md := fun md h => by cases h; exact mo_X11_pair rfl _
theorem mq_X11_isEcho : ∀ md, (some (2, nb_X11_isEcho, []) : Option MDT) = some md → MDOK bo9 186 md := fun md h => by cases h; exact mo_X11_isEcho rfl _
theorem mq_X11_isValley : ∀ md, (some (2, nb_X11_isValley, []) : Option MDT) = some md → MDOK bo9 187 md := fun md h => by cases h; exact mo_X11_isValley rfl _
theorem mq_X11_areBoth : ∀ md, (some (3, nb_X11_areBoth, []) : Option MDT) = some md → MDOK bo9 188 md := fun md h => by cases h; exact mo_X11_areBoth rfl _
theorem mq_X11_employer : ∀ md, (some (2, nb_X11_employer, []) : Option MDT) = some md → MDOK bo9 189 md := fun md h => by cases h; exact mo_X11_employer rfl _
theorem mq_X11_hasContract : ∀ md, (some (2, nb_X11_hasContract, []) : Option MDT) = some md → MDOK bo9 190 md := fun md h => by cases h; exact mo_X11_hasContract rfl _
theorem mq_X11_freePosts : ∀ md, (some (2, nb_X11_freePosts, []) : Option MDT) = some md → MDOK bo9 191 md := fun md h => by cases h; exact mo_X11_freePosts rfl _
theorem mq_X11_fogNow : ∀ md, (some (2, nb_X11_fogNow, []) : Option MDT) = some md → MDOK bo9 192 md := fun md h => by cases h; exact mo_X11_fogNow rfl _
theorem mq_X11_trueScore : ∀ md, (some (3, nb_X11_trueScore, []) : Option MDT) = some md → MDOK bo9 193 md := fun md h => by cases h; exact mo_X11_trueScore rfl _
theorem mq_X11_seen : ∀ md, (some (3, nb_X11_seen, []) : Option MDT) = some md → MDOK bo9 194 md := fun md h => by cases h; exact mo_X11_seen rfl _
theorem mq_X11_reasonOf : ∀ md, (some (3, nb_X11_reasonOf, []) : Option MDT) = some md → MDOK bo9 195 md := fun md h => by cases h; exact mo_X11_reasonOf rfl _
theorem mq_X11_isAcceptable : ∀ md, (some (3, nb_X11_isAcceptable, []) : Option MDT) = some md → MDOK bo9 196 md := fun md h => by cases h; exact mo_X11_isAcceptable rfl _
theorem mq_X11_isBetterValley : ∀ md, (some (4, nb_X11_isBetterValley, []) : Option MDT) = some md → MDOK bo9 197 md := fun md h => by cases h; exact mo_X11_isBetterValley rfl _
theorem mq_X11_isBetterEcho : ∀ md, (some (5, nb_X11_isBetterEcho, []) : Option MDT) = some md → MDOK bo9 198 md := fun md h => by cases h; exact mo_X11_isBetterEcho rfl _
theorem mq_X11_contractComes : ∀ md, (some (4, nb_X11_contractComes, []) : Option MDT) = some md → MDOK bo9 199 md := fun md h => by cases h; exact mo_X11_contractComes rfl _
theorem mq_X11_contractEnds : ∀ md, (some (6, nb_X11_contractEnds, []) : Option MDT) = some md → MDOK bo9 200 md := fun md h => by cases h; exact mo_X11_contractEnds rfl _
theorem mq_X11_enqueues : ∀ md, (some (2, nb_X11_enqueues, []) : Option MDT) = some md → MDOK bo9 201 md := fun md h => by cases h; exact mo_X11_enqueues rfl _
theorem mq_X11_dequeues : ∀ md, (some (2, nb_X11_dequeues, []) : Option MDT) = some md → MDOK bo9 202 md := fun md h => by cases h; exact mo_X11_dequeues rfl _
theorem mq_X11_nextValley : ∀ md, (some (4, nb_X11_nextValley, []) : Option MDT) = some md → MDOK bo9 203 md := fun md h => by cases h; exact mo_X11_nextValley rfl _
theorem mq_X11_leastKept : ∀ md, (some (4, nb_X11_leastKept, []) : Option MDT) = some md → MDOK bo9 204 md := fun md h => by cases h; exact mo_X11_leastKept rfl _
theorem mq_X11_applies : ∀ md, (some (5, nb_X11_applies, []) : Option MDT) = some md → MDOK bo9 205 md := fun md h => by cases h; exact mo_X11_applies rfl _
theorem mq_X11_startsFair : ∀ md, (some (2, nb_X11_startsFair, []) : Option MDT) = some md → MDOK bo9 206 md := fun md h => by cases h; exact mo_X11_startsFair rfl _
theorem mq_X11_isKept : ∀ md, (some (4, nb_X11_isKept, []) : Option MDT) = some md → MDOK bo9 207 md := fun md h => by cases h; exact mo_X11_isKept rfl _
theorem mq_X11_fairNow : ∀ md, (some (3, nb_X11_fairNow, []) : Option MDT) = some md → MDOK bo9 208 md := fun md h => by cases h; exact mo_X11_fairNow rfl _
theorem mq_X11_beginsSeason : ∀ md, (some (3, nb_X11_beginsSeason, []) : Option MDT) = some md → MDOK bo9 209 md := fun md h => by cases h; exact mo_X11_beginsSeason rfl _
theorem mq_X11_earns : ∀ md, (some (5, nb_X11_earns, []) : Option MDT) = some md → MDOK bo9 210 md := fun md h => by cases h; exact mo_X11_earns rfl _
theorem mq_X11_pays : ∀ md, (some (4, nb_X11_pays, []) : Option MDT) = some md → MDOK bo9 211 md := fun md h => by cases h; exact mo_X11_pays rfl _
theorem mq_X11_mayDesert : ∀ md, (some (3, nb_X11_mayDesert, []) : Option MDT) = some md → MDOK bo9 212 md := fun md h => by cases h; exact mo_X11_mayDesert rfl _
theorem mq_X11_dayOnce : ∀ md, (some (3, nb_X11_dayOnce, []) : Option MDT) = some md → MDOK bo9 213 md := fun md h => by cases h; exact mo_X11_dayOnce rfl _
theorem mq_X11_goBy : ∀ md, (some (3, nb_X11_goBy, []) : Option MDT) = some md → MDOK bo9 214 md := fun md h => by cases h; exact mo_X11_goBy rfl _
theorem mq_X11_allLeft : ∀ md, (some (3, nb_X11_allLeft, []) : Option MDT) = some md → MDOK bo9 215 md := fun md h => by cases h; exact mo_X11_allLeft rfl _
theorem mq_X11_passNow : ∀ md, (some (3, nb_X11_passNow, []) : Option MDT) = some md → MDOK bo9 216 md := fun md h => by cases h; exact mo_X11_passNow rfl _
theorem mq_X11_holdNow : ∀ md, (some (2, nb_X11_holdNow, []) : Option MDT) = some md → MDOK bo9 217 md := fun md h => by cases h; exact mo_X11_holdNow rfl _
theorem mq_X11_canTest : ∀ md, (some (3, nb_X11_canTest, []) : Option MDT) = some md → MDOK bo9 218 md := fun md h => by cases h; exact mo_X11_canTest rfl _
theorem mq_X11_testNow : ∀ md, (some (3, nb_X11_testNow, []) : Option MDT) = some md → MDOK bo9 219 md := fun md h => by cases h; exact mo_X11_testNow rfl _
theorem mq_X11_dismissNow : ∀ md, (some (2, nb_X11_dismissNow, []) : Option MDT) = some md → MDOK bo9 220 md := fun md h => by cases h; exact mo_X11_dismissNow rfl _
theorem mq_X11_wageNow : ∀ md, (some (3, nb_X11_wageNow, []) : Option MDT) = some md → MDOK bo9 221 md := fun md h => by cases h; exact mo_X11_wageNow rfl _
theorem mq_X11_fundNow : ∀ md, (some (3, nb_X11_fundNow, []) : Option MDT) = some md → MDOK bo9 222 md := fun md h => by cases h; exact mo_X11_fundNow rfl _
theorem mq_X11_canTrain : ∀ md, (some (2, nb_X11_canTrain, []) : Option MDT) = some md → MDOK bo9 223 md := fun md h => by cases h; exact mo_X11_canTrain rfl _
theorem mq_X11_trainNow : ∀ md, (some (3, nb_X11_trainNow, []) : Option MDT) = some md → MDOK bo9 224 md := fun md h => by cases h; exact mo_X11_trainNow rfl _
theorem mq_X11_four : ∀ md, (some (3, nb_X11_four, []) : Option MDT) = some md → MDOK bo9 225 md := fun md h => by cases h; exact mo_X11_four rfl _
theorem mq_X11_append : ∀ md, (some (6, nb_X11_append, []) : Option MDT) = some md → MDOK bo9 226 md := fun md h => by cases h; exact mo_X11_append rfl _
theorem mq_X11_truncate : ∀ md, (some (2, nb_X11_truncate, []) : Option MDT) = some md → MDOK bo9 227 md := fun md h => by cases h; exact mo_X11_truncate rfl _
theorem mq_X11_byteAt : ∀ md, (some (2, nb_X11_byteAt, []) : Option MDT) = some md → MDOK bo9 228 md := fun md h => by cases h; exact mo_X11_byteAt rfl _
theorem mq_X11_next : ∀ md, (some (1, nb_X11_next, []) : Option MDT) = some md → MDOK bo9 229 md := fun md h => by cases h; exact mo_X11_next rfl _
theorem mq_X11_must : ∀ md, (some (3, nb_X11_must, []) : Option MDT) = some md → MDOK bo9 230 md := fun md h => by cases h; exact mo_X11_must rfl _
theorem mq_X11_sees : ∀ md, (some (4, nb_X11_sees, []) : Option MDT) = some md → MDOK bo9 231 md := fun md h => by cases h; exact mo_X11_sees rfl _
theorem mq_X11_goesPast : ∀ md, (some (1, nb_X11_goesPast, []) : Option MDT) = some md → MDOK bo9 232 md := fun md h => by cases h; exact mo_X11_goesPast rfl _
theorem mq_X11_keyword : ∀ md, (some (2, nb_X11_keyword, []) : Option MDT) = some md → MDOK bo9 233 md := fun md h => by cases h; exact mo_X11_keyword rfl _
theorem mq_X11_semicolon : ∀ md, (some (1, nb_X11_semicolon, []) : Option MDT) = some md → MDOK bo9 234 md := fun md h => by cases h; exact mo_X11_semicolon rfl _
theorem mq_X11_number : ∀ md, (some (4, nb_X11_number, []) : Option MDT) = some md → MDOK bo9 235 md := fun md h => by cases h; exact mo_X11_number rfl _
theorem mq_X11_isNumberNext : ∀ md, (some (1, nb_X11_isNumberNext, []) : Option MDT) = some md → MDOK bo9 236 md := fun md h => by cases h; exact mo_X11_isNumberNext rfl _
theorem mq_X11_isName : ∀ md, (some (2, nb_X11_isName, []) : Option MDT) = some md → MDOK bo9 237 md := fun md h => by cases h; exact mo_X11_isName rfl _
theorem mq_X11_isNamed : ∀ md, (some (3, nb_X11_isNamed, [(3, ([(2, 0, 6)], [], [], [], false, true, []))]) : Option MDT) = some md → MDOK bo9 238 md := fun md h => by cases h; exact mo_X11_isNamed rfl _
theorem mq_X11_placeOf : ∀ md, (some (2, nb_X11_placeOf, []) : Option MDT) = some md → MDOK bo9 239 md := fun md h => by cases h; exact mo_X11_placeOf rfl _
theorem mq_X11_thingHere : ∀ md, (some (3, nb_X11_thingHere, []) : Option MDT) = some md → MDOK bo9 240 md := fun md h => by cases h; exact mo_X11_thingHere rfl _
theorem mq_X11_mustBe : ∀ md, (some (3, nb_X11_mustBe, []) : Option MDT) = some md → MDOK bo9 241 md := fun md h => by cases h; exact mo_X11_mustBe rfl _
theorem mq_X11_newName : ∀ md, (some (4, nb_X11_newName, [(8, ([(3, 0, 6)], [], [(31, 24, 29), (31, 39, 44), (31, 54, 59), (31, 69, 74), (31, 84, 89), (31, 99, 104), (31, 114, 119), (31, 129, 134), (31, 144, 149), (31, 159, 164), (31, 174, 179), (31, 189, 194), (31, 204, 209), (31, 221, 226), (31, 238, 243), (31, 255, 260), (31, 272, 277), (31, 289, 294), (31, 306, 311), (31, 323, 328)], [], false, true, []))]) : Option MDT) = some md → MDOK bo9 242 md := fun md h => by cases h; exact mo_X11_newName rfl _
theorem mq_X11_startsText : ∀ md, (some (1, nb_X11_startsText, []) : Option MDT) = some md → MDOK bo9 243 md := fun md h => by cases h; exact mo_X11_startsText rfl _
theorem mq_X11_endsText : ∀ md, (some (1, nb_X11_endsText, []) : Option MDT) = some md → MDOK bo9 244 md := fun md h => by cases h; exact mo_X11_endsText rfl _
theorem mq_X11_errorCode : ∀ md, (some (1, nb_X11_errorCode, []) : Option MDT) = some md → MDOK bo9 245 md := fun md h => by cases h; exact mo_X11_errorCode rfl _
theorem mq_X11_errorPosition : ∀ md, (some (1, nb_X11_errorPosition, []) : Option MDT) = some md → MDOK bo9 246 md := fun md h => by cases h; exact mo_X11_errorPosition rfl _
theorem mq_X11_fogLine : ∀ md, (some (2, nb_X11_fogLine, []) : Option MDT) = some md → MDOK bo9 247 md := fun md h => by cases h; exact mo_X11_fogLine rfl _
theorem mq_X11_echoLine : ∀ md, (some (6, nb_X11_echoLine, []) : Option MDT) = some md → MDOK bo9 248 md := fun md h => by cases h; exact mo_X11_echoLine rfl _
theorem mq_X11_valleyLine : ∀ md, (some (6, nb_X11_valleyLine, []) : Option MDT) = some md → MDOK bo9 249 md := fun md h => by cases h; exact mo_X11_valleyLine rfl _
theorem mq_X11_testedLine : ∀ md, (some (3, nb_X11_testedLine, []) : Option MDT) = some md → MDOK bo9 250 md := fun md h => by cases h; exact mo_X11_testedLine rfl _
theorem mq_X11_statement : ∀ md, (some (2, nb_X11_statement, []) : Option MDT) = some md → MDOK bo9 251 md := fun md h => by cases h; exact mo_X11_statement rfl _
theorem mq_X11_load : ∀ md, (some (2, nb_X11_load, []) : Option MDT) = some md → MDOK bo9 252 md := fun md h => by cases h; exact mo_X11_load rfl _
theorem mq_X11_otherCommand : ∀ md, (some (1, nb_X11_otherCommand, []) : Option MDT) = some md → MDOK bo9 253 md := fun md h => by cases h; exact mo_X11_otherCommand rfl _
theorem mq_X11_commandHere : ∀ md, (some (1, nb_X11_commandHere, []) : Option MDT) = some md → MDOK bo9 254 md := fun md h => by cases h; exact mo_X11_commandHere rfl _
theorem mq_X11_partsOf : ∀ md, (some (3, nb_X11_partsOf, []) : Option MDT) = some md → MDOK bo9 255 md := fun md h => by cases h; exact mo_X11_partsOf rfl _
theorem mq_X11_readsOne : ∀ md, (some (2, nb_X11_readsOne, []) : Option MDT) = some md → MDOK bo9 256 md := fun md h => by cases h; exact mo_X11_readsOne rfl _
theorem mq_X11_doesOne : ∀ md, (some (4, nb_X11_doesOne, []) : Option MDT) = some md → MDOK bo9 257 md := fun md h => by cases h; exact mo_X11_doesOne rfl _
theorem mq_X11_keeps : ∀ md, (some (3, nb_X11_keeps, []) : Option MDT) = some md → MDOK bo9 258 md := fun md h => by cases h; exact mo_X11_keeps rfl _
theorem mq_X11_executeCommands : ∀ md, (some (2, nb_X11_executeCommands, []) : Option MDT) = some md → MDOK bo9 259 md := fun md h => by cases h; exact mo_X11_executeCommands rfl _
theorem mq_X11_tells : ∀ md, (some (2, nb_X11_tells, []) : Option MDT) = some md → MDOK bo9 260 md := fun md h => by cases h; exact mo_X11_tells rfl _
theorem mq_X11_tellsEcho : ∀ md, (some (3, nb_X11_tellsEcho, []) : Option MDT) = some md → MDOK bo9 261 md := fun md h => by cases h; exact mo_X11_tellsEcho rfl _
theorem mq_X11_tellsValley : ∀ md, (some (3, nb_X11_tellsValley, []) : Option MDT) = some md → MDOK bo9 262 md := fun md h => by cases h; exact mo_X11_tellsValley rfl _
theorem mq_X11_echoCount : ∀ md, (some (1, nb_X11_echoCount, []) : Option MDT) = some md → MDOK bo9 263 md := fun md h => by cases h; exact mo_X11_echoCount rfl _
theorem mq_X11_valleyCount : ∀ md, (some (1, nb_X11_valleyCount, []) : Option MDT) = some md → MDOK bo9 264 md := fun md h => by cases h; exact mo_X11_valleyCount rfl _
theorem mq_X11_day : ∀ md, (some (1, nb_X11_day, []) : Option MDT) = some md → MDOK bo9 265 md := fun md h => by cases h; exact mo_X11_day rfl _
theorem mq_X11_seasonLength : ∀ md, (some (1, nb_X11_seasonLength, []) : Option MDT) = some md → MDOK bo9 266 md := fun md h => by cases h; exact mo_X11_seasonLength rfl _
theorem mq_X11_fogOf : ∀ md, (some (2, nb_X11_fogOf, []) : Option MDT) = some md → MDOK bo9 267 md := fun md h => by cases h; exact mo_X11_fogOf rfl _
theorem mq_X11_finds : ∀ md, (some (3, nb_X11_finds, []) : Option MDT) = some md → MDOK bo9 268 md := fun md h => by cases h; exact mo_X11_finds rfl _
theorem mq_X11_findEcho : ∀ md, (some (1, nb_X11_findEcho, []) : Option MDT) = some md → MDOK bo9 269 md := fun md h => by cases h; exact mo_X11_findEcho rfl _
theorem mq_X11_findValley : ∀ md, (some (1, nb_X11_findValley, []) : Option MDT) = some md → MDOK bo9 270 md := fun md h => by cases h; exact mo_X11_findValley rfl _
theorem mq_X11_delayOf : ∀ md, (some (2, nb_X11_delayOf, []) : Option MDT) = some md → MDOK bo9 271 md := fun md h => by cases h; exact mo_X11_delayOf rfl _
theorem mq_X11_repeatsOf : ∀ md, (some (2, nb_X11_repeatsOf, []) : Option MDT) = some md → MDOK bo9 272 md := fun md h => by cases h; exact mo_X11_repeatsOf rfl _
theorem mq_X11_reserveWage : ∀ md, (some (2, nb_X11_reserveWage, []) : Option MDT) = some md → MDOK bo9 273 md := fun md h => by cases h; exact mo_X11_reserveWage rfl _
theorem mq_X11_resistanceOf : ∀ md, (some (2, nb_X11_resistanceOf, []) : Option MDT) = some md → MDOK bo9 274 md := fun md h => by cases h; exact mo_X11_resistanceOf rfl _
theorem mq_X11_savingsOf : ∀ md, (some (2, nb_X11_savingsOf, []) : Option MDT) = some md → MDOK bo9 275 md := fun md h => by cases h; exact mo_X11_savingsOf rfl _
theorem mq_X11_unpaidDays : ∀ md, (some (2, nb_X11_unpaidDays, []) : Option MDT) = some md → MDOK bo9 276 md := fun md h => by cases h; exact mo_X11_unpaidDays rfl _
theorem mq_X11_employerOf : ∀ md, (some (2, nb_X11_employerOf, []) : Option MDT) = some md → MDOK bo9 277 md := fun md h => by cases h; exact mo_X11_employerOf rfl _
theorem mq_X11_widthOf : ∀ md, (some (2, nb_X11_widthOf, []) : Option MDT) = some md → MDOK bo9 278 md := fun md h => by cases h; exact mo_X11_widthOf rfl _
theorem mq_X11_postsOf : ∀ md, (some (2, nb_X11_postsOf, []) : Option MDT) = some md → MDOK bo9 279 md := fun md h => by cases h; exact mo_X11_postsOf rfl _
theorem mq_X11_wageOf : ∀ md, (some (2, nb_X11_wageOf, []) : Option MDT) = some md → MDOK bo9 280 md := fun md h => by cases h; exact mo_X11_wageOf rfl _
theorem mq_X11_purseOf : ∀ md, (some (2, nb_X11_purseOf, []) : Option MDT) = some md → MDOK bo9 281 md := fun md h => by cases h; exact mo_X11_purseOf rfl _
theorem mq_X11_staffCount : ∀ md, (some (2, nb_X11_staffCount, []) : Option MDT) = some md → MDOK bo9 282 md := fun md h => by cases h; exact mo_X11_staffCount rfl _
theorem mq_X11_staffMember : ∀ md, (some (3, nb_X11_staffMember, []) : Option MDT) = some md → MDOK bo9 283 md := fun md h => by cases h; exact mo_X11_staffMember rfl _
theorem mq_X11_isTested : ∀ md, (some (3, nb_X11_isTested, []) : Option MDT) = some md → MDOK bo9 284 md := fun md h => by cases h; exact mo_X11_isTested rfl _
theorem mq_X11_seenScore : ∀ md, (some (3, nb_X11_seenScore, []) : Option MDT) = some md → MDOK bo9 285 md := fun md h => by cases h; exact mo_X11_seenScore rfl _
theorem mq_X11_pairReason : ∀ md, (some (3, nb_X11_pairReason, []) : Option MDT) = some md → MDOK bo9 286 md := fun md h => by cases h; exact mo_X11_pairReason rfl _
theorem mq_X11_valleyAt : ∀ md, (some (6, nb_X11_valleyAt, []) : Option MDT) = some md → MDOK bo9 287 md := fun md h => by cases h; exact mo_X11_valleyAt rfl _
theorem mq_X11_preferredValley : ∀ md, (some (3, nb_X11_preferredValley, []) : Option MDT) = some md → MDOK bo9 288 md := fun md h => by cases h; exact mo_X11_preferredValley rfl _
theorem mq_X11_echoAt : ∀ md, (some (6, nb_X11_echoAt, []) : Option MDT) = some md → MDOK bo9 289 md := fun md h => by cases h; exact mo_X11_echoAt rfl _
theorem mq_X11_preferredEcho : ∀ md, (some (3, nb_X11_preferredEcho, []) : Option MDT) = some md → MDOK bo9 290 md := fun md h => by cases h; exact mo_X11_preferredEcho rfl _
theorem mq_X11_wouldLeave : ∀ md, (some (4, nb_X11_wouldLeave, []) : Option MDT) = some md → MDOK bo9 291 md := fun md h => by cases h; exact mo_X11_wouldLeave rfl _
theorem mq_X11_wouldTake : ∀ md, (some (4, nb_X11_wouldTake, []) : Option MDT) = some md → MDOK bo9 292 md := fun md h => by cases h; exact mo_X11_wouldTake rfl _
theorem mq_X11_isBlocking : ∀ md, (some (3, nb_X11_isBlocking, []) : Option MDT) = some md → MDOK bo9 293 md := fun md h => by cases h; exact mo_X11_isBlocking rfl _
theorem mq_X11_blockingPairs : ∀ md, (some (4, nb_X11_blockingPairs, []) : Option MDT) = some md → MDOK bo9 294 md := fun md h => by cases h; exact mo_X11_blockingPairs rfl _
theorem mq_X11_resultOf : ∀ md, (some (2, nb_X11_resultOf, []) : Option MDT) = some md → MDOK bo9 295 md := fun md h => by cases h; exact mo_X11_resultOf rfl _
theorem mq_X11_fairResult : ∀ md, (some (2, nb_X11_fairResult, []) : Option MDT) = some md → MDOK bo9 296 md := fun md h => by cases h; exact mo_X11_fairResult rfl _
theorem mq_X11_areDays : ∀ md, (some (1, nb_X11_areDays, []) : Option MDT) = some md → MDOK bo9 297 md := fun md h => by cases h; exact mo_X11_areDays rfl _
theorem mq_X11_savingsAfter : ∀ md, (some (3, nb_X11_savingsAfter, []) : Option MDT) = some md → MDOK bo9 298 md := fun md h => by cases h; exact mo_X11_savingsAfter rfl _
theorem mq_X11_purseAfter : ∀ md, (some (3, nb_X11_purseAfter, []) : Option MDT) = some md → MDOK bo9 299 md := fun md h => by cases h; exact mo_X11_purseAfter rfl _
theorem mq_X11_desertsIn : ∀ md, (some (4, nb_X11_desertsIn, []) : Option MDT) = some md → MDOK bo9 300 md := fun md h => by cases h; exact mo_X11_desertsIn rfl _
theorem mq_X11_leastWage : ∀ md, (some (6, nb_X11_leastWage, []) : Option MDT) = some md → MDOK bo9 301 md := fun md h => by cases h; exact mo_X11_leastWage rfl _
theorem mq_X11_bestTest : ∀ md, (some (4, nb_X11_bestTest, []) : Option MDT) = some md → MDOK bo9 302 md := fun md h => by cases h; exact mo_X11_bestTest rfl _
theorem mq_X11_richestEcho : ∀ md, (some (3, nb_X11_richestEcho, []) : Option MDT) = some md → MDOK bo9 303 md := fun md h => by cases h; exact mo_X11_richestEcho rfl _
theorem mq_X11_daysServed : ∀ md, (some (3, nb_X11_daysServed, []) : Option MDT) = some md → MDOK bo9 304 md := fun md h => by cases h; exact mo_X11_daysServed rfl _
theorem mq_X11_contractsMade : ∀ md, (some (1, nb_X11_contractsMade, []) : Option MDT) = some md → MDOK bo9 305 md := fun md h => by cases h; exact mo_X11_contractsMade rfl _
theorem mq_X11_contractsEnded : ∀ md, (some (1, nb_X11_contractsEnded, []) : Option MDT) = some md → MDOK bo9 306 md := fun md h => by cases h; exact mo_X11_contractsEnded rfl _
theorem mq_X11_desertions : ∀ md, (some (2, nb_X11_desertions, []) : Option MDT) = some md → MDOK bo9 307 md := fun md h => by cases h; exact mo_X11_desertions rfl _
theorem mq_X11_repliesHeard : ∀ md, (some (2, nb_X11_repliesHeard, []) : Option MDT) = some md → MDOK bo9 308 md := fun md h => by cases h; exact mo_X11_repliesHeard rfl _
theorem mq_X11_wagesPaid : ∀ md, (some (2, nb_X11_wagesPaid, []) : Option MDT) = some md → MDOK bo9 309 md := fun md h => by cases h; exact mo_X11_wagesPaid rfl _
theorem mq_X11_savings : ∀ md, (some (3, nb_X11_savings, []) : Option MDT) = some md → MDOK bo9 310 md := fun md h => by cases h; exact mo_X11_savings rfl _
theorem mq_X11_purses : ∀ md, (some (3, nb_X11_purses, []) : Option MDT) = some md → MDOK bo9 311 md := fun md h => by cases h; exact mo_X11_purses rfl _
theorem mq_X11_contracts : ∀ md, (some (3, nb_X11_contracts, []) : Option MDT) = some md → MDOK bo9 312 md := fun md h => by cases h; exact mo_X11_contracts rfl _
theorem mq_X11_moneyImbalance : ∀ md, (some (1, nb_X11_moneyImbalance, []) : Option MDT) = some md → MDOK bo9 313 md := fun md h => by cases h; exact mo_X11_moneyImbalance rfl _
theorem mq_X11_contractImbalance : ∀ md, (some (1, nb_X11_contractImbalance, []) : Option MDT) = some md → MDOK bo9 314 md := fun md h => by cases h; exact mo_X11_contractImbalance rfl _
theorem mq_X11_servedBy : ∀ md, (some (5, nb_X11_servedBy, []) : Option MDT) = some md → MDOK bo9 315 md := fun md h => by cases h; exact mo_X11_servedBy rfl _
theorem mq_X11_doubleServants : ∀ md, (some (3, nb_X11_doubleServants, []) : Option MDT) = some md → MDOK bo9 316 md := fun md h => by cases h; exact mo_X11_doubleServants rfl _
theorem mq_X11_meanSavings : ∀ md, (some (1, nb_X11_meanSavings, []) : Option MDT) = some md → MDOK bo9 317 md := fun md h => by cases h; exact mo_X11_meanSavings rfl _
theorem mq_X11_employmentRate : ∀ md, (some (1, nb_X11_employmentRate, []) : Option MDT) = some md → MDOK bo9 318 md := fun md h => by cases h; exact mo_X11_employmentRate rfl _
theorem mq_X11_tried : ∀ md, (some (2, nb_X11_tried, []) : Option MDT) = some md → MDOK bo9 319 md := fun md h => by cases h; exact mo_X11_tried rfl _
theorem mq_X11_done : ∀ md, (some (2, nb_X11_done, []) : Option MDT) = some md → MDOK bo9 320 md := fun md h => by cases h; exact mo_X11_done rfl _
theorem mq_X11_passDays : ∀ md, (some (2, nb_X11_passDays, []) : Option MDT) = some md → MDOK bo9 321 md := fun md h => by cases h; exact mo_X11_passDays rfl _
theorem mq_X11_holdFair : ∀ md, (some (1, nb_X11_holdFair, []) : Option MDT) = some md → MDOK bo9 322 md := fun md h => by cases h; exact mo_X11_holdFair rfl _
theorem mq_X11_test : ∀ md, (some (4, nb_X11_test, []) : Option MDT) = some md → MDOK bo9 323 md := fun md h => by cases h; exact mo_X11_test rfl _
theorem mq_X11_dismiss : ∀ md, (some (2, nb_X11_dismiss, []) : Option MDT) = some md → MDOK bo9 324 md := fun md h => by cases h; exact mo_X11_dismiss rfl _
theorem mq_X11_setWage : ∀ md, (some (3, nb_X11_setWage, []) : Option MDT) = some md → MDOK bo9 325 md := fun md h => by cases h; exact mo_X11_setWage rfl _
theorem mq_X11_fund : ∀ md, (some (3, nb_X11_fund, []) : Option MDT) = some md → MDOK bo9 326 md := fun md h => by cases h; exact mo_X11_fund rfl _
theorem mq_X11_train : ∀ md, (some (2, nb_X11_train, []) : Option MDT) = some md → MDOK bo9 327 md := fun md h => by cases h; exact mo_X11_train rfl _
theorem mq_X11_undo : ∀ md, (some (1, nb_X11_undo, []) : Option MDT) = some md → MDOK bo9 328 md := fun md h => by cases h; exact mo_X11_undo rfl _
theorem mq_X11_save : ∀ md, (some (1, nb_X11_save, []) : Option MDT) = some md → MDOK bo9 329 md := fun md h => by cases h; exact mo_X11_save rfl _
theorem mq_X11_restore : ∀ md, (some (1, nb_X11_restore, []) : Option MDT) = some md → MDOK bo9 330 md := fun md h => by cases h; exact mo_X11_restore rfl _
theorem mq_X11_writes : ∀ md, (some (2, nb_X11_writes, []) : Option MDT) = some md → MDOK bo9 331 md := fun md h => by cases h; exact mo_X11_writes rfl _
theorem mq_X11_writesName : ∀ md, (some (3, nb_X11_writesName, []) : Option MDT) = some md → MDOK bo9 332 md := fun md h => by cases h; exact mo_X11_writesName rfl _
theorem mq_X11_formatContracts : ∀ md, (some (3, nb_X11_formatContracts, []) : Option MDT) = some md → MDOK bo9 333 md := fun md h => by cases h; exact mo_X11_formatContracts rfl _
theorem mq_X11_outputByte : ∀ md, (some (2, nb_X11_outputByte, []) : Option MDT) = some md → MDOK bo9 334 md := fun md h => by cases h; exact mo_X11_outputByte rfl _
theorem mq_J9_floorMod_7cf53 : ∀ md, (some (3, nb_J9_floorMod_7cf53, []) : Option MDT) = some md → MDOK bo9 335 md := fun md h => by cases h; exact mo_J9_floorMod_7cf53 rfl _
theorem mq_J9_abs_0f7a4 : ∀ md, (some (1, nb_J9_abs_0f7a4, []) : Option MDT) = some md → MDOK bo9 336 md := fun md h => by cases h; exact mo_J9_abs_0f7a4 rfl _
theorem mq_J9_max_7cf53 : ∀ md, (some (2, nb_J9_max_7cf53, []) : Option MDT) = some md → MDOK bo9 337 md := fun md h => by cases h; exact mo_J9_max_7cf53 rfl _
theorem mq_J0_checkIndex_df160 : ∀ md, (some (2, nb_J0_checkIndex_df160, []) : Option MDT) = some md → MDOK bo9 342 md := fun md h => by cases h; exact mo_J0_checkIndex_df160 rfl _
theorem mq_J3_checkIndex_8e157 : ∀ md, (some (3, nb_J3_checkIndex_8e157, []) : Option MDT) = some md → MDOK bo9 344 md := fun md h => by cases h; exact mo_J3_checkIndex_8e157 rfl _
theorem mq_L_append : ∀ md, (some (8, nb_L_append, []) : Option MDT) = some md → MDOK bo9 345 md := fun md h => by cases h; exact mo_L_append rfl _
theorem mq_L_truncate : ∀ md, (some (4, nb_L_truncate, []) : Option MDT) = some md → MDOK bo9 346 md := fun md h => by cases h; exact mo_L_truncate rfl _
theorem mq_L_load : ∀ md, (some (3, nb_L_load, []) : Option MDT) = some md → MDOK bo9 347 md := fun md h => by cases h; exact mo_L_load rfl _
theorem mq_L_executeCommands : ∀ md, (some (3, nb_L_executeCommands, []) : Option MDT) = some md → MDOK bo9 348 md := fun md h => by cases h; exact mo_L_executeCommands rfl _
theorem mq_L_fogOf : ∀ md, (some (4, nb_L_fogOf, []) : Option MDT) = some md → MDOK bo9 349 md := fun md h => by cases h; exact mo_L_fogOf rfl _
theorem mq_L_delayOf : ∀ md, (some (4, nb_L_delayOf, []) : Option MDT) = some md → MDOK bo9 350 md := fun md h => by cases h; exact mo_L_delayOf rfl _
theorem mq_L_repeatsOf : ∀ md, (some (4, nb_L_repeatsOf, []) : Option MDT) = some md → MDOK bo9 351 md := fun md h => by cases h; exact mo_L_repeatsOf rfl _
theorem mq_L_reserveWage : ∀ md, (some (4, nb_L_reserveWage, []) : Option MDT) = some md → MDOK bo9 352 md := fun md h => by cases h; exact mo_L_reserveWage rfl _
theorem mq_L_resistanceOf : ∀ md, (some (4, nb_L_resistanceOf, []) : Option MDT) = some md → MDOK bo9 353 md := fun md h => by cases h; exact mo_L_resistanceOf rfl _
theorem mq_L_savingsOf : ∀ md, (some (4, nb_L_savingsOf, []) : Option MDT) = some md → MDOK bo9 354 md := fun md h => by cases h; exact mo_L_savingsOf rfl _
theorem mq_L_unpaidDays : ∀ md, (some (4, nb_L_unpaidDays, []) : Option MDT) = some md → MDOK bo9 355 md := fun md h => by cases h; exact mo_L_unpaidDays rfl _
theorem mq_L_employerOf : ∀ md, (some (4, nb_L_employerOf, []) : Option MDT) = some md → MDOK bo9 356 md := fun md h => by cases h; exact mo_L_employerOf rfl _
theorem mq_L_widthOf : ∀ md, (some (4, nb_L_widthOf, []) : Option MDT) = some md → MDOK bo9 357 md := fun md h => by cases h; exact mo_L_widthOf rfl _
theorem mq_L_postsOf : ∀ md, (some (4, nb_L_postsOf, []) : Option MDT) = some md → MDOK bo9 358 md := fun md h => by cases h; exact mo_L_postsOf rfl _
theorem mq_L_wageOf : ∀ md, (some (4, nb_L_wageOf, []) : Option MDT) = some md → MDOK bo9 359 md := fun md h => by cases h; exact mo_L_wageOf rfl _
theorem mq_L_purseOf : ∀ md, (some (4, nb_L_purseOf, []) : Option MDT) = some md → MDOK bo9 360 md := fun md h => by cases h; exact mo_L_purseOf rfl _
theorem mq_L_staffCount : ∀ md, (some (4, nb_L_staffCount, []) : Option MDT) = some md → MDOK bo9 361 md := fun md h => by cases h; exact mo_L_staffCount rfl _
theorem mq_L_staffMember : ∀ md, (some (5, nb_L_staffMember, []) : Option MDT) = some md → MDOK bo9 362 md := fun md h => by cases h; exact mo_L_staffMember rfl _
theorem mq_L_isTested : ∀ md, (some (5, nb_L_isTested, []) : Option MDT) = some md → MDOK bo9 363 md := fun md h => by cases h; exact mo_L_isTested rfl _
theorem mq_L_seenScore : ∀ md, (some (5, nb_L_seenScore, []) : Option MDT) = some md → MDOK bo9 364 md := fun md h => by cases h; exact mo_L_seenScore rfl _
theorem mq_L_pairReason : ∀ md, (some (5, nb_L_pairReason, []) : Option MDT) = some md → MDOK bo9 365 md := fun md h => by cases h; exact mo_L_pairReason rfl _
theorem mq_L_preferredValley : ∀ md, (some (5, nb_L_preferredValley, []) : Option MDT) = some md → MDOK bo9 366 md := fun md h => by cases h; exact mo_L_preferredValley rfl _
theorem mq_L_preferredEcho : ∀ md, (some (5, nb_L_preferredEcho, []) : Option MDT) = some md → MDOK bo9 367 md := fun md h => by cases h; exact mo_L_preferredEcho rfl _
theorem mq_L_fairResult : ∀ md, (some (4, nb_L_fairResult, []) : Option MDT) = some md → MDOK bo9 368 md := fun md h => by cases h; exact mo_L_fairResult rfl _
theorem mq_L_savingsAfter : ∀ md, (some (5, nb_L_savingsAfter, []) : Option MDT) = some md → MDOK bo9 369 md := fun md h => by cases h; exact mo_L_savingsAfter rfl _
theorem mq_L_purseAfter : ∀ md, (some (5, nb_L_purseAfter, []) : Option MDT) = some md → MDOK bo9 370 md := fun md h => by cases h; exact mo_L_purseAfter rfl _
theorem mq_L_desertsIn : ∀ md, (some (4, nb_L_desertsIn, []) : Option MDT) = some md → MDOK bo9 371 md := fun md h => by cases h; exact mo_L_desertsIn rfl _
theorem mq_L_leastWage : ∀ md, (some (5, nb_L_leastWage, []) : Option MDT) = some md → MDOK bo9 372 md := fun md h => by cases h; exact mo_L_leastWage rfl _
theorem mq_L_bestTest : ∀ md, (some (4, nb_L_bestTest, []) : Option MDT) = some md → MDOK bo9 373 md := fun md h => by cases h; exact mo_L_bestTest rfl _
theorem mq_L_daysServed : ∀ md, (some (5, nb_L_daysServed, []) : Option MDT) = some md → MDOK bo9 374 md := fun md h => by cases h; exact mo_L_daysServed rfl _
theorem mq_L_desertions : ∀ md, (some (4, nb_L_desertions, []) : Option MDT) = some md → MDOK bo9 375 md := fun md h => by cases h; exact mo_L_desertions rfl _
theorem mq_L_repliesHeard : ∀ md, (some (4, nb_L_repliesHeard, []) : Option MDT) = some md → MDOK bo9 376 md := fun md h => by cases h; exact mo_L_repliesHeard rfl _
theorem mq_L_wagesPaid : ∀ md, (some (4, nb_L_wagesPaid, []) : Option MDT) = some md → MDOK bo9 377 md := fun md h => by cases h; exact mo_L_wagesPaid rfl _
theorem mq_L_passDays : ∀ md, (some (4, nb_L_passDays, []) : Option MDT) = some md → MDOK bo9 378 md := fun md h => by cases h; exact mo_L_passDays rfl _
theorem mq_L_test : ∀ md, (some (5, nb_L_test, []) : Option MDT) = some md → MDOK bo9 379 md := fun md h => by cases h; exact mo_L_test rfl _
theorem mq_L_dismiss : ∀ md, (some (4, nb_L_dismiss, []) : Option MDT) = some md → MDOK bo9 380 md := fun md h => by cases h; exact mo_L_dismiss rfl _
theorem mq_L_setWage : ∀ md, (some (5, nb_L_setWage, []) : Option MDT) = some md → MDOK bo9 381 md := fun md h => by cases h; exact mo_L_setWage rfl _
theorem mq_L_fund : ∀ md, (some (5, nb_L_fund, []) : Option MDT) = some md → MDOK bo9 382 md := fun md h => by cases h; exact mo_L_fund rfl _
theorem mq_L_train : ∀ md, (some (4, nb_L_train, []) : Option MDT) = some md → MDOK bo9 383 md := fun md h => by cases h; exact mo_L_train rfl _
theorem mq_L_undo : ∀ md, (some (3, nb_L_undo, []) : Option MDT) = some md → MDOK bo9 384 md := fun md h => by cases h; exact mo_L_undo rfl _
theorem mq_L_restore : ∀ md, (some (3, nb_L_restore, []) : Option MDT) = some md → MDOK bo9 385 md := fun md h => by cases h; exact mo_L_restore rfl _
theorem hMT9 : ∀ y md, MT0 y = some md → MDOK bo9 y md := fun y => tree_at' (P := fun y x => ∀ md, x = some md → MDOK bo9 y md) 9 mdT none (And.intro (And.intro (And.intro (And.intro (And.intro (And.intro (And.intro (And.intro (And.intro mq_N mq_X0_add) (And.intro mq_X0_addInt mq_X0_addName)) (And.intro (And.intro mq_X0_byteAt mq_X0_nameAt) (And.intro mq_N mq_X1_parse))) (And.intro (And.intro (And.intro mq_X1_verbRead mq_X1_takeParameters) (And.intro mq_X1_takeValleyAndMore mq_N)) (And.intro (And.intro mq_X2_parse mq_X2_isComplete) (And.intro mq_X2_takeSeason mq_X2_takeFog)))) (And.intro (And.intro (And.intro (And.intro mq_X2_takeStatement mq_X2_takeNewEcho) (And.intro mq_X2_takeNewValley mq_X2_takeTest)) (And.intro (And.intro mq_N mq_X3_start) (And.intro mq_X3_copyFrom mq_X3_lessonPrice))) (And.intro (And.intro (And.intro mq_X3_canLearn mq_X3_leavesIn) (And.intro mq_N mq_X4_push)) (And.intro (And.intro mq_X4_pop mq_N) (And.intro mq_X5_hold mq_X5_enrol))))) (And.intro (And.intro (And.intro (And.intro (And.intro mq_X5_weigh mq_X5_enqueue) (And.intro mq_X5_favourite mq_X5_apply)) (And.intro (And.intro mq_X5_leastKept mq_X5_prefers) (And.intro mq_X5_sign mq_N))) (And.intro (And.intro (And.intro mq_X6_copyFrom mq_X6_startsOn) (And.intro mq_X6_fogOn mq_X6_addLevel)) (And.intro (And.intro mq_N mq_X7_begin) (And.intro mq_X7_fail mq_X7_kindOf)))) (And.intro (And.intro (And.intro (And.intro mq_X7_next mq_X7_wordIs) (And.intro mq_X7_name mq_X7_takeWord)) (And.intro (And.intro mq_X7_takeSemicolon mq_X7_isName) (And.intro mq_X7_takeName mq_X7_takeNumber))) (And.intro (And.intro (And.intro mq_X7_checkNumber mq_X7_takeEcho) (And.intro mq_X7_takeValley mq_N)) (And.intro (And.intro mq_X8_start mq_X8_copyFrom) (And.intro mq_X8_hasTested mq_X8_noteTest)))))) (And.intro (And.intro (And.intro (And.intro (And.intro (And.intro mq_X8_hasLost mq_X8_hasFreePost) (And.intro mq_X8_hire mq_X8_release)) (And.intro (And.intro mq_N mq_X9_clear) (And.intro mq_X9_copyFrom mq_X9_echoNamed))) (And.intro (And.intro (And.intro mq_X9_valleyNamed mq_X9_trueScore) (And.intro mq_X9_scoreSeen mq_X9_reasonAt)) (And.intro (And.intro mq_X9_isAcceptable mq_X9_paysBetter) (And.intro mq_X9_prefersEcho mq_X9_rankOfValley)))) (And.intro (And.intro (And.intro (And.intro mq_X9_rankOfEcho mq_X9_isBlocking) (And.intro mq_X9_wouldMove mq_X9_wouldTake)) (And.intro (And.intro mq_X9_canTest mq_X9_employ) (And.intro mq_X9_endContract mq_X9_endSeason))) (And.intro (And.intro (And.intro mq_X9_work mq_X9_hearReplies) (And.intro mq_X9_payStaff mq_X9_desert)) (And.intro (And.intro mq_X9_putMoney mq_X9_teach) (And.intro mq_X9_moneyInPurses mq_X9_moneySaved))))) (And.intro (And.intro (And.intro (And.intro (And.intro mq_X9_contracts mq_X9_valleysServedBy) (And.intro mq_N mq_X10_append)) (And.intro (And.intro mq_X10_truncate mq_X10_load) (And.intro mq_X10_executeCommands mq_X10_errorCode))) (And.intro (And.intro (And.intro mq_X10_errorPosition mq_X10_echoCount) (And.intro mq_X10_valleyCount mq_X10_day)) (And.intro (And.intro mq_X10_seasonLength mq_X10_fogOf) (And.intro mq_X10_findEcho mq_X10_findValley)))) (And.intro (And.intro (And.intro (And.intro mq_X10_delayOf mq_X10_repeatsOf) (And.intro mq_X10_reserveWage mq_X10_resistanceOf)) (And.intro (And.intro mq_X10_savingsOf mq_X10_unpaidDays) (And.intro mq_X10_employerOf mq_X10_widthOf))) (And.intro (And.intro (And.intro mq_X10_postsOf mq_X10_wageOf) (And.intro mq_X10_purseOf mq_X10_staffCount)) (And.intro (And.intro mq_X10_staffMember mq_X10_isTested) (And.intro mq_X10_seenScore mq_X10_pairReason))))))) (And.intro (And.intro (And.intro (And.intro (And.intro (And.intro (And.intro mq_X10_preferredValley mq_X10_preferredEcho) (And.intro mq_X10_blockingPairs mq_X10_fairResult)) (And.intro (And.intro mq_X10_savingsAfter mq_X10_purseAfter) (And.intro mq_X10_desertsIn mq_X10_leastWage))) (And.intro (And.intro (And.intro mq_X10_bestTest mq_X10_richestEcho) (And.intro mq_X10_daysServed mq_X10_contractsMade)) (And.intro (And.intro mq_X10_contractsEnded mq_X10_desertions) (And.intro mq_X10_repliesHeard mq_X10_wagesPaid)))) (And.intro (And.intro (And.intro (And.intro mq_X10_moneyImbalance mq_X10_contractImbalance) (And.intro mq_X10_doubleServants mq_X10_meanSavings)) (And.intro (And.intro mq_X10_employmentRate mq_X10_passDays) (And.intro mq_X10_holdFair mq_X10_test))) (And.intro (And.intro (And.intro mq_X10_dismiss mq_X10_setWage) (And.intro mq_X10_fund mq_X10_train)) (And.intro (And.intro mq_X10_undo mq_X10_save) (And.intro mq_X10_restore mq_X10_formatContracts))))) (And.intro (And.intro (And.intro (And.intro (And.intro mq_X10_outputByte mq_X10_requireEcho) (And.intro mq_X10_requireValley mq_X10_requirePair)) (And.intro (And.intro mq_X10_echoAt mq_X10_valleyAt) (And.intro mq_X10_adoptDraft mq_X10_noteErrors))) (And.intro (And.intro (And.intro mq_X10_simulate mq_X10_letDaysPass) (And.intro mq_X10_perform mq_X10_writeContracts)) (And.intro (And.intro mq_N mq_N) (And.intro mq_X11_in mq_X11_truth)))) (And.intro (And.intro (And.intro (And.intro mq_X11_passes mq_X11_passesBoth) (And.intro mq_X11_copies mq_X11_tries)) (And.intro (And.intro mq_X11_laidBack mq_X11_of) (And.intro mq_X11_puts mq_X11_ofValley))) (And.intro (And.intro (And.intro mq_X11_putsValley mq_X11_pair) (And.intro mq_X11_isEcho mq_X11_isValley)) (And.intro (And.intro mq_X11_areBoth mq_X11_employer) (And.intro mq_X11_hasContract mq_X11_freePosts)))))) (And.intro (And.intro (And.intro (And.intro (And.intro (And.intro mq_X11_fogNow mq_X11_trueScore) (And.intro mq_X11_seen mq_X11_reasonOf)) (And.intro (And.intro mq_X11_isAcceptable mq_X11_isBetterValley) (And.intro mq_X11_isBetterEcho mq_X11_contractComes))) (And.intro (And.intro (And.intro mq_X11_contractEnds mq_X11_enqueues) (And.intro mq_X11_dequeues mq_X11_nextValley)) (And.intro (And.intro mq_X11_leastKept mq_X11_applies) (And.intro mq_X11_startsFair mq_X11_isKept)))) (And.intro (And.intro (And.intro (And.intro mq_X11_fairNow mq_X11_beginsSeason) (And.intro mq_X11_earns mq_X11_pays)) (And.intro (And.intro mq_X11_mayDesert mq_X11_dayOnce) (And.intro mq_X11_goBy mq_X11_allLeft))) (And.intro (And.intro (And.intro mq_X11_passNow mq_X11_holdNow) (And.intro mq_X11_canTest mq_X11_testNow)) (And.intro (And.intro mq_X11_dismissNow mq_X11_wageNow) (And.intro mq_X11_fundNow mq_X11_canTrain))))) (And.intro (And.intro (And.intro (And.intro (And.intro mq_X11_trainNow mq_X11_four) (And.intro mq_X11_append mq_X11_truncate)) (And.intro (And.intro mq_X11_byteAt mq_X11_next) (And.intro mq_X11_must mq_X11_sees))) (And.intro (And.intro (And.intro mq_X11_goesPast mq_X11_keyword) (And.intro mq_X11_semicolon mq_X11_number)) (And.intro (And.intro mq_X11_isNumberNext mq_X11_isName) (And.intro mq_X11_isNamed mq_X11_placeOf)))) (And.intro (And.intro (And.intro (And.intro mq_X11_thingHere mq_X11_mustBe) (And.intro mq_X11_newName mq_X11_startsText)) (And.intro (And.intro mq_X11_endsText mq_X11_errorCode) (And.intro mq_X11_errorPosition mq_X11_fogLine))) (And.intro (And.intro (And.intro mq_X11_echoLine mq_X11_valleyLine) (And.intro mq_X11_testedLine mq_X11_statement)) (And.intro (And.intro mq_X11_load mq_X11_otherCommand) (And.intro mq_X11_commandHere mq_X11_partsOf)))))))) (And.intro (And.intro (And.intro (And.intro (And.intro (And.intro (And.intro (And.intro mq_X11_readsOne mq_X11_doesOne) (And.intro mq_X11_keeps mq_X11_executeCommands)) (And.intro (And.intro mq_X11_tells mq_X11_tellsEcho) (And.intro mq_X11_tellsValley mq_X11_echoCount))) (And.intro (And.intro (And.intro mq_X11_valleyCount mq_X11_day) (And.intro mq_X11_seasonLength mq_X11_fogOf)) (And.intro (And.intro mq_X11_finds mq_X11_findEcho) (And.intro mq_X11_findValley mq_X11_delayOf)))) (And.intro (And.intro (And.intro (And.intro mq_X11_repeatsOf mq_X11_reserveWage) (And.intro mq_X11_resistanceOf mq_X11_savingsOf)) (And.intro (And.intro mq_X11_unpaidDays mq_X11_employerOf) (And.intro mq_X11_widthOf mq_X11_postsOf))) (And.intro (And.intro (And.intro mq_X11_wageOf mq_X11_purseOf) (And.intro mq_X11_staffCount mq_X11_staffMember)) (And.intro (And.intro mq_X11_isTested mq_X11_seenScore) (And.intro mq_X11_pairReason mq_X11_valleyAt))))) (And.intro (And.intro (And.intro (And.intro (And.intro mq_X11_preferredValley mq_X11_echoAt) (And.intro mq_X11_preferredEcho mq_X11_wouldLeave)) (And.intro (And.intro mq_X11_wouldTake mq_X11_isBlocking) (And.intro mq_X11_blockingPairs mq_X11_resultOf))) (And.intro (And.intro (And.intro mq_X11_fairResult mq_X11_areDays) (And.intro mq_X11_savingsAfter mq_X11_purseAfter)) (And.intro (And.intro mq_X11_desertsIn mq_X11_leastWage) (And.intro mq_X11_bestTest mq_X11_richestEcho)))) (And.intro (And.intro (And.intro (And.intro mq_X11_daysServed mq_X11_contractsMade) (And.intro mq_X11_contractsEnded mq_X11_desertions)) (And.intro (And.intro mq_X11_repliesHeard mq_X11_wagesPaid) (And.intro mq_X11_savings mq_X11_purses))) (And.intro (And.intro (And.intro mq_X11_contracts mq_X11_moneyImbalance) (And.intro mq_X11_contractImbalance mq_X11_servedBy)) (And.intro (And.intro mq_X11_doubleServants mq_X11_meanSavings) (And.intro mq_X11_employmentRate mq_X11_tried)))))) (And.intro (And.intro (And.intro (And.intro (And.intro (And.intro mq_X11_done mq_X11_passDays) (And.intro mq_X11_holdFair mq_X11_test)) (And.intro (And.intro mq_X11_dismiss mq_X11_setWage) (And.intro mq_X11_fund mq_X11_train))) (And.intro (And.intro (And.intro mq_X11_undo mq_X11_save) (And.intro mq_X11_restore mq_X11_writes)) (And.intro (And.intro mq_X11_writesName mq_X11_formatContracts) (And.intro mq_X11_outputByte mq_J9_floorMod_7cf53)))) (And.intro (And.intro (And.intro (And.intro mq_J9_abs_0f7a4 mq_J9_max_7cf53) (And.intro mq_N mq_N)) (And.intro (And.intro mq_N mq_N) (And.intro mq_J0_checkIndex_df160 mq_N))) (And.intro (And.intro (And.intro mq_J3_checkIndex_8e157 mq_L_append) (And.intro mq_L_truncate mq_L_load)) (And.intro (And.intro mq_L_executeCommands mq_L_fogOf) (And.intro mq_L_delayOf mq_L_repeatsOf))))) (And.intro (And.intro (And.intro (And.intro (And.intro mq_L_reserveWage mq_L_resistanceOf) (And.intro mq_L_savingsOf mq_L_unpaidDays)) (And.intro (And.intro mq_L_employerOf mq_L_widthOf) (And.intro mq_L_postsOf mq_L_wageOf))) (And.intro (And.intro (And.intro mq_L_purseOf mq_L_staffCount) (And.intro mq_L_staffMember mq_L_isTested)) (And.intro (And.intro mq_L_seenScore mq_L_pairReason) (And.intro mq_L_preferredValley mq_L_preferredEcho)))) (And.intro (And.intro (And.intro (And.intro mq_L_fairResult mq_L_savingsAfter) (And.intro mq_L_purseAfter mq_L_desertsIn)) (And.intro (And.intro mq_L_leastWage mq_L_bestTest) (And.intro mq_L_daysServed mq_L_desertions))) (And.intro (And.intro (And.intro mq_L_repliesHeard mq_L_wagesPaid) (And.intro mq_L_passDays mq_L_test)) (And.intro (And.intro mq_L_dismiss mq_L_setWage) (And.intro mq_L_fund mq_L_train))))))) (And.intro (And.intro (And.intro (And.intro (And.intro (And.intro (And.intro mq_L_undo mq_L_restore) (And.intro mq_N mq_N)) (And.intro (And.intro mq_N mq_N) (And.intro mq_N mq_N))) (And.intro (And.intro (And.intro mq_N mq_N) (And.intro mq_N mq_N)) (And.intro (And.intro mq_N mq_N) (And.intro mq_N mq_N)))) (And.intro (And.intro (And.intro (And.intro mq_N mq_N) (And.intro mq_N mq_N)) (And.intro (And.intro mq_N mq_N) (And.intro mq_N mq_N))) (And.intro (And.intro (And.intro mq_N mq_N) (And.intro mq_N mq_N)) (And.intro (And.intro mq_N mq_N) (And.intro mq_N mq_N))))) (And.intro (And.intro (And.intro (And.intro (And.intro mq_N mq_N) (And.intro mq_N mq_N)) (And.intro (And.intro mq_N mq_N) (And.intro mq_N mq_N))) (And.intro (And.intro (And.intro mq_N mq_N) (And.intro mq_N mq_N)) (And.intro (And.intro mq_N mq_N) (And.intro mq_N mq_N)))) (And.intro (And.intro (And.intro (And.intro mq_N mq_N) (And.intro mq_N mq_N)) (And.intro (And.intro mq_N mq_N) (And.intro mq_N mq_N))) (And.intro (And.intro (And.intro mq_N mq_N) (And.intro mq_N mq_N)) (And.intro (And.intro mq_N mq_N) (And.intro mq_N mq_N)))))) (And.intro (And.intro (And.intro (And.intro (And.intro (And.intro mq_N mq_N) (And.intro mq_N mq_N)) (And.intro (And.intro mq_N mq_N) (And.intro mq_N mq_N))) (And.intro (And.intro (And.intro mq_N mq_N) (And.intro mq_N mq_N)) (And.intro (And.intro mq_N mq_N) (And.intro mq_N mq_N)))) (And.intro (And.intro (And.intro (And.intro mq_N mq_N) (And.intro mq_N mq_N)) (And.intro (And.intro mq_N mq_N) (And.intro mq_N mq_N))) (And.intro (And.intro (And.intro mq_N mq_N) (And.intro mq_N mq_N)) (And.intro (And.intro mq_N mq_N) (And.intro mq_N mq_N))))) (And.intro (And.intro (And.intro (And.intro (And.intro mq_N mq_N) (And.intro mq_N mq_N)) (And.intro (And.intro mq_N mq_N) (And.intro mq_N mq_N))) (And.intro (And.intro (And.intro mq_N mq_N) (And.intro mq_N mq_N)) (And.intro (And.intro mq_N mq_N) (And.intro mq_N mq_N)))) (And.intro (And.intro (And.intro (And.intro mq_N mq_N) (And.intro mq_N mq_N)) (And.intro (And.intro mq_N mq_N) (And.intro mq_N mq_N))) (And.intro (And.intro (And.intro mq_N mq_N) (And.intro mq_N mq_N)) (And.intro (And.intro mq_N mq_N) (And.intro mq_N mq_N))))))))) (fun _ _ h => nomatch h) rfl y
end
section
/-! the texts, read by the machine -/
set_option maxRecDepth 100000 in
theorem tsl_21 (k : Nat) (Ev : Env9) (M : Mem) : runM (k + 5) 338 Ev 466 [vW 21] M = some [((0, 0), Ev, vI 4, [], [], M, 466, 0)] := rfl
set_option maxRecDepth 100000 in
theorem tsc_21_0 (k : Nat) (Ev : Env9) (M : Mem) : runM (k + 5) 339 Ev 466 [vW 21, vI 0] M = some [((0, 0), Ev, vI 102, [], [], M, 466, 0)] := rfl
set_option maxRecDepth 100000 in
theorem tsc_21_1 (k : Nat) (Ev : Env9) (M : Mem) : runM (k + 5) 339 Ev 466 [vW 21, vI 1] M = some [((0, 0), Ev, vI 97, [], [], M, 466, 0)] := rfl
set_option maxRecDepth 100000 in
theorem tsc_21_2 (k : Nat) (Ev : Env9) (M : Mem) : runM (k + 5) 339 Ev 466 [vW 21, vI 2] M = some [((0, 0), Ev, vI 105, [], [], M, 466, 0)] := rfl
set_option maxRecDepth 100000 in
theorem tsc_21_3 (k : Nat) (Ev : Env9) (M : Mem) : runM (k + 5) 339 Ev 466 [vW 21, vI 3] M = some [((0, 0), Ev, vI 114, [], [], M, 466, 0)] := rfl
set_option maxRecDepth 100000 in
theorem tsl_27 (k : Nat) (Ev : Env9) (M : Mem) : runM (k + 5) 338 Ev 466 [vW 27] M = some [((0, 0), Ev, vI 3, [], [], M, 466, 0)] := rfl
set_option maxRecDepth 100000 in
theorem tsc_27_0 (k : Nat) (Ev : Env9) (M : Mem) : runM (k + 5) 339 Ev 466 [vW 27, vI 0] M = some [((0, 0), Ev, vI 102, [], [], M, 466, 0)] := rfl
set_option maxRecDepth 100000 in
theorem tsc_27_1 (k : Nat) (Ev : Env9) (M : Mem) : runM (k + 5) 339 Ev 466 [vW 27, vI 1] M = some [((0, 0), Ev, vI 111, [], [], M, 466, 0)] := rfl
set_option maxRecDepth 100000 in
theorem tsc_27_2 (k : Nat) (Ev : Env9) (M : Mem) : runM (k + 5) 339 Ev 466 [vW 27, vI 2] M = some [((0, 0), Ev, vI 103, [], [], M, 466, 0)] := rfl
set_option maxRecDepth 100000 in
theorem tsl_28 (k : Nat) (Ev : Env9) (M : Mem) : runM (k + 5) 338 Ev 466 [vW 28] M = some [((0, 0), Ev, vI 4, [], [], M, 466, 0)] := rfl
set_option maxRecDepth 100000 in
theorem tsc_28_0 (k : Nat) (Ev : Env9) (M : Mem) : runM (k + 5) 339 Ev 466 [vW 28, vI 0] M = some [((0, 0), Ev, vI 101, [], [], M, 466, 0)] := rfl
set_option maxRecDepth 100000 in
theorem tsc_28_1 (k : Nat) (Ev : Env9) (M : Mem) : runM (k + 5) 339 Ev 466 [vW 28, vI 1] M = some [((0, 0), Ev, vI 99, [], [], M, 466, 0)] := rfl
set_option maxRecDepth 100000 in
theorem tsc_28_2 (k : Nat) (Ev : Env9) (M : Mem) : runM (k + 5) 339 Ev 466 [vW 28, vI 2] M = some [((0, 0), Ev, vI 104, [], [], M, 466, 0)] := rfl
set_option maxRecDepth 100000 in
theorem tsc_28_3 (k : Nat) (Ev : Env9) (M : Mem) : runM (k + 5) 339 Ev 466 [vW 28, vI 3] M = some [((0, 0), Ev, vI 111, [], [], M, 466, 0)] := rfl
set_option maxRecDepth 100000 in
theorem tsl_29 (k : Nat) (Ev : Env9) (M : Mem) : runM (k + 5) 338 Ev 466 [vW 29] M = some [((0, 0), Ev, vI 6, [], [], M, 466, 0)] := rfl
set_option maxRecDepth 100000 in
theorem tsc_29_0 (k : Nat) (Ev : Env9) (M : Mem) : runM (k + 5) 339 Ev 466 [vW 29, vI 0] M = some [((0, 0), Ev, vI 118, [], [], M, 466, 0)] := rfl
set_option maxRecDepth 100000 in
theorem tsc_29_1 (k : Nat) (Ev : Env9) (M : Mem) : runM (k + 5) 339 Ev 466 [vW 29, vI 1] M = some [((0, 0), Ev, vI 97, [], [], M, 466, 0)] := rfl
set_option maxRecDepth 100000 in
theorem tsc_29_2 (k : Nat) (Ev : Env9) (M : Mem) : runM (k + 5) 339 Ev 466 [vW 29, vI 2] M = some [((0, 0), Ev, vI 108, [], [], M, 466, 0)] := rfl
set_option maxRecDepth 100000 in
theorem tsc_29_3 (k : Nat) (Ev : Env9) (M : Mem) : runM (k + 5) 339 Ev 466 [vW 29, vI 3] M = some [((0, 0), Ev, vI 108, [], [], M, 466, 0)] := rfl
set_option maxRecDepth 100000 in
theorem tsc_29_4 (k : Nat) (Ev : Env9) (M : Mem) : runM (k + 5) 339 Ev 466 [vW 29, vI 4] M = some [((0, 0), Ev, vI 101, [], [], M, 466, 0)] := rfl
set_option maxRecDepth 100000 in
theorem tsc_29_5 (k : Nat) (Ev : Env9) (M : Mem) : runM (k + 5) 339 Ev 466 [vW 29, vI 5] M = some [((0, 0), Ev, vI 121, [], [], M, 466, 0)] := rfl
set_option maxRecDepth 100000 in
theorem tsl_30 (k : Nat) (Ev : Env9) (M : Mem) : runM (k + 5) 338 Ev 466 [vW 30] M = some [((0, 0), Ev, vI 6, [], [], M, 466, 0)] := rfl
set_option maxRecDepth 100000 in
theorem tsc_30_0 (k : Nat) (Ev : Env9) (M : Mem) : runM (k + 5) 339 Ev 466 [vW 30, vI 0] M = some [((0, 0), Ev, vI 116, [], [], M, 466, 0)] := rfl
set_option maxRecDepth 100000 in
theorem tsc_30_1 (k : Nat) (Ev : Env9) (M : Mem) : runM (k + 5) 339 Ev 466 [vW 30, vI 1] M = some [((0, 0), Ev, vI 101, [], [], M, 466, 0)] := rfl
set_option maxRecDepth 100000 in
theorem tsc_30_2 (k : Nat) (Ev : Env9) (M : Mem) : runM (k + 5) 339 Ev 466 [vW 30, vI 2] M = some [((0, 0), Ev, vI 115, [], [], M, 466, 0)] := rfl
set_option maxRecDepth 100000 in
theorem tsc_30_3 (k : Nat) (Ev : Env9) (M : Mem) : runM (k + 5) 339 Ev 466 [vW 30, vI 3] M = some [((0, 0), Ev, vI 116, [], [], M, 466, 0)] := rfl
set_option maxRecDepth 100000 in
theorem tsc_30_4 (k : Nat) (Ev : Env9) (M : Mem) : runM (k + 5) 339 Ev 466 [vW 30, vI 4] M = some [((0, 0), Ev, vI 101, [], [], M, 466, 0)] := rfl
set_option maxRecDepth 100000 in
theorem tsc_30_5 (k : Nat) (Ev : Env9) (M : Mem) : runM (k + 5) 339 Ev 466 [vW 30, vI 5] M = some [((0, 0), Ev, vI 100, [], [], M, 466, 0)] := rfl
set_option maxRecDepth 100000 in
theorem tsl_20 (k : Nat) (Ev : Env9) (M : Mem) : runM (k + 5) 338 Ev 466 [vW 20] M = some [((0, 0), Ev, vI 4, [], [], M, 466, 0)] := rfl
set_option maxRecDepth 100000 in
theorem tsc_20_0 (k : Nat) (Ev : Env9) (M : Mem) : runM (k + 5) 339 Ev 466 [vW 20, vI 0] M = some [((0, 0), Ev, vI 112, [], [], M, 466, 0)] := rfl
set_option maxRecDepth 100000 in
theorem tsc_20_1 (k : Nat) (Ev : Env9) (M : Mem) : runM (k + 5) 339 Ev 466 [vW 20, vI 1] M = some [((0, 0), Ev, vI 97, [], [], M, 466, 0)] := rfl
set_option maxRecDepth 100000 in
theorem tsc_20_2 (k : Nat) (Ev : Env9) (M : Mem) : runM (k + 5) 339 Ev 466 [vW 20, vI 2] M = some [((0, 0), Ev, vI 115, [], [], M, 466, 0)] := rfl
set_option maxRecDepth 100000 in
theorem tsc_20_3 (k : Nat) (Ev : Env9) (M : Mem) : runM (k + 5) 339 Ev 466 [vW 20, vI 3] M = some [((0, 0), Ev, vI 115, [], [], M, 466, 0)] := rfl
set_option maxRecDepth 100000 in
theorem tsl_22 (k : Nat) (Ev : Env9) (M : Mem) : runM (k + 5) 338 Ev 466 [vW 22] M = some [((0, 0), Ev, vI 4, [], [], M, 466, 0)] := rfl
set_option maxRecDepth 100000 in
theorem tsc_22_0 (k : Nat) (Ev : Env9) (M : Mem) : runM (k + 5) 339 Ev 466 [vW 22, vI 0] M = some [((0, 0), Ev, vI 116, [], [], M, 466, 0)] := rfl
set_option maxRecDepth 100000 in
theorem tsc_22_1 (k : Nat) (Ev : Env9) (M : Mem) : runM (k + 5) 339 Ev 466 [vW 22, vI 1] M = some [((0, 0), Ev, vI 101, [], [], M, 466, 0)] := rfl
set_option maxRecDepth 100000 in
theorem tsc_22_2 (k : Nat) (Ev : Env9) (M : Mem) : runM (k + 5) 339 Ev 466 [vW 22, vI 2] M = some [((0, 0), Ev, vI 115, [], [], M, 466, 0)] := rfl
set_option maxRecDepth 100000 in
theorem tsc_22_3 (k : Nat) (Ev : Env9) (M : Mem) : runM (k + 5) 339 Ev 466 [vW 22, vI 3] M = some [((0, 0), Ev, vI 116, [], [], M, 466, 0)] := rfl
set_option maxRecDepth 100000 in
theorem tsl_23 (k : Nat) (Ev : Env9) (M : Mem) : runM (k + 5) 338 Ev 466 [vW 23] M = some [((0, 0), Ev, vI 7, [], [], M, 466, 0)] := rfl
set_option maxRecDepth 100000 in
theorem tsc_23_0 (k : Nat) (Ev : Env9) (M : Mem) : runM (k + 5) 339 Ev 466 [vW 23, vI 0] M = some [((0, 0), Ev, vI 100, [], [], M, 466, 0)] := rfl
set_option maxRecDepth 100000 in
theorem tsc_23_1 (k : Nat) (Ev : Env9) (M : Mem) : runM (k + 5) 339 Ev 466 [vW 23, vI 1] M = some [((0, 0), Ev, vI 105, [], [], M, 466, 0)] := rfl
set_option maxRecDepth 100000 in
theorem tsc_23_2 (k : Nat) (Ev : Env9) (M : Mem) : runM (k + 5) 339 Ev 466 [vW 23, vI 2] M = some [((0, 0), Ev, vI 115, [], [], M, 466, 0)] := rfl
set_option maxRecDepth 100000 in
theorem tsc_23_3 (k : Nat) (Ev : Env9) (M : Mem) : runM (k + 5) 339 Ev 466 [vW 23, vI 3] M = some [((0, 0), Ev, vI 109, [], [], M, 466, 0)] := rfl
set_option maxRecDepth 100000 in
theorem tsc_23_4 (k : Nat) (Ev : Env9) (M : Mem) : runM (k + 5) 339 Ev 466 [vW 23, vI 4] M = some [((0, 0), Ev, vI 105, [], [], M, 466, 0)] := rfl
set_option maxRecDepth 100000 in
theorem tsc_23_5 (k : Nat) (Ev : Env9) (M : Mem) : runM (k + 5) 339 Ev 466 [vW 23, vI 5] M = some [((0, 0), Ev, vI 115, [], [], M, 466, 0)] := rfl
set_option maxRecDepth 100000 in
theorem tsc_23_6 (k : Nat) (Ev : Env9) (M : Mem) : runM (k + 5) 339 Ev 466 [vW 23, vI 6] M = some [((0, 0), Ev, vI 115, [], [], M, 466, 0)] := rfl
set_option maxRecDepth 100000 in
theorem tsl_24 (k : Nat) (Ev : Env9) (M : Mem) : runM (k + 5) 338 Ev 466 [vW 24] M = some [((0, 0), Ev, vI 4, [], [], M, 466, 0)] := rfl
set_option maxRecDepth 100000 in
theorem tsc_24_0 (k : Nat) (Ev : Env9) (M : Mem) : runM (k + 5) 339 Ev 466 [vW 24, vI 0] M = some [((0, 0), Ev, vI 119, [], [], M, 466, 0)] := rfl
set_option maxRecDepth 100000 in
theorem tsc_24_1 (k : Nat) (Ev : Env9) (M : Mem) : runM (k + 5) 339 Ev 466 [vW 24, vI 1] M = some [((0, 0), Ev, vI 97, [], [], M, 466, 0)] := rfl
set_option maxRecDepth 100000 in
theorem tsc_24_2 (k : Nat) (Ev : Env9) (M : Mem) : runM (k + 5) 339 Ev 466 [vW 24, vI 2] M = some [((0, 0), Ev, vI 103, [], [], M, 466, 0)] := rfl
set_option maxRecDepth 100000 in
theorem tsc_24_3 (k : Nat) (Ev : Env9) (M : Mem) : runM (k + 5) 339 Ev 466 [vW 24, vI 3] M = some [((0, 0), Ev, vI 101, [], [], M, 466, 0)] := rfl
set_option maxRecDepth 100000 in
theorem tsl_25 (k : Nat) (Ev : Env9) (M : Mem) : runM (k + 5) 338 Ev 466 [vW 25] M = some [((0, 0), Ev, vI 4, [], [], M, 466, 0)] := rfl
set_option maxRecDepth 100000 in
theorem tsc_25_0 (k : Nat) (Ev : Env9) (M : Mem) : runM (k + 5) 339 Ev 466 [vW 25, vI 0] M = some [((0, 0), Ev, vI 102, [], [], M, 466, 0)] := rfl
set_option maxRecDepth 100000 in
theorem tsc_25_1 (k : Nat) (Ev : Env9) (M : Mem) : runM (k + 5) 339 Ev 466 [vW 25, vI 1] M = some [((0, 0), Ev, vI 117, [], [], M, 466, 0)] := rfl
set_option maxRecDepth 100000 in
theorem tsc_25_2 (k : Nat) (Ev : Env9) (M : Mem) : runM (k + 5) 339 Ev 466 [vW 25, vI 2] M = some [((0, 0), Ev, vI 110, [], [], M, 466, 0)] := rfl
set_option maxRecDepth 100000 in
theorem tsc_25_3 (k : Nat) (Ev : Env9) (M : Mem) : runM (k + 5) 339 Ev 466 [vW 25, vI 3] M = some [((0, 0), Ev, vI 100, [], [], M, 466, 0)] := rfl
set_option maxRecDepth 100000 in
theorem tsl_26 (k : Nat) (Ev : Env9) (M : Mem) : runM (k + 5) 338 Ev 466 [vW 26] M = some [((0, 0), Ev, vI 5, [], [], M, 466, 0)] := rfl
set_option maxRecDepth 100000 in
theorem tsc_26_0 (k : Nat) (Ev : Env9) (M : Mem) : runM (k + 5) 339 Ev 466 [vW 26, vI 0] M = some [((0, 0), Ev, vI 116, [], [], M, 466, 0)] := rfl
set_option maxRecDepth 100000 in
theorem tsc_26_1 (k : Nat) (Ev : Env9) (M : Mem) : runM (k + 5) 339 Ev 466 [vW 26, vI 1] M = some [((0, 0), Ev, vI 114, [], [], M, 466, 0)] := rfl
set_option maxRecDepth 100000 in
theorem tsc_26_2 (k : Nat) (Ev : Env9) (M : Mem) : runM (k + 5) 339 Ev 466 [vW 26, vI 2] M = some [((0, 0), Ev, vI 97, [], [], M, 466, 0)] := rfl
set_option maxRecDepth 100000 in
theorem tsc_26_3 (k : Nat) (Ev : Env9) (M : Mem) : runM (k + 5) 339 Ev 466 [vW 26, vI 3] M = some [((0, 0), Ev, vI 105, [], [], M, 466, 0)] := rfl
set_option maxRecDepth 100000 in
theorem tsc_26_4 (k : Nat) (Ev : Env9) (M : Mem) : runM (k + 5) 339 Ev 466 [vW 26, vI 4] M = some [((0, 0), Ev, vI 110, [], [], M, 466, 0)] := rfl
end
section
/-! the view machine: raw numbers by cell and place; what it gives, the machine gives -/
abbrev Vw : Type := Nat → Nat → Nat
noncomputable def rN1 (v : AV) : Nat := match v with | .inl x => x | .inr (.inr (.inl x)) => x | _ => 0
noncomputable def rNc (c : Cel) (i : Nat) : Nat := match c with
  | .inl q => rN1 (nth q.2 i)
  | .inr (.inl q) => pget q.2.2.1 i
  | .inr (.inr (.inl _)) => 0
  | .inr (.inr (.inr xs)) => rN1 (nth xs i)
noncomputable def rN (M : Mem) (k i : Nat) : Nat := rNc (tget 9 M k) i
def Vws (M : Mem) (f : Vw) : Prop := ∀ k : Nat, k < 466 → ∀ i : Nat, rN M k i = f k i
noncomputable def bdF : Nat → Int → Int × Int := fun _ _ => (-2147483648, 2147483647)
def TS (M : Mem) : Prop := TI kd0 sh0 rt0 bdF M
theorem sg_any (x : Nat) : (-2147483648 : Int) ≤ sg x ∧ sg x ≤ 2147483647 := ⟨sg_lo x, sg_hi x⟩
theorem TS_of {M : Mem} (h : TI kd0 sh0 rt0 bd0 M) : TS M := by
  intro k hk
  have h1 := h k hk
  unfold cOK at h1 ⊢
  generalize sh0 (kd0 k) = s9 at h1 ⊢
  rcases s9 with q | q | q | N
  · obtain ⟨fs, e1, e2, e3⟩ := h1
    refine ⟨fs, e1, e2, fun i ft hi => ?_⟩
    have h2 := e3 i ft hi
    match ft, h2 with
    | 0, h2 =>
      obtain ⟨x, x1, x2, -⟩ := h2
      exact ⟨x, x1, x2, sg_any x⟩
    | 1, h2 => exact h2
    | f + 2, h2 => exact h2
  · obtain ⟨p, e1, e2, -⟩ := h1
    exact ⟨p, e1, e2, fun j _ => sg_any _⟩
  · exact h1
  · exact h1
noncomputable def vup (f : Vw) (k i x : Nat) : Vw := fun k' i' => if k' = k ∧ i' = i then x else f k' i'
abbrev VR : Type := (Nat × Nat) × AV × Vw
abbrev VK : Type := Nat → List AV → List AV → Vw → Option VR
abbrev VC : Type := Nat → List AV → Vw → Option VR
def wlt (v : AV) : Prop := match v with | .inl x => x < 4294967296 | _ => True
def WL (l : List AV) : Prop := ∀ v ∈ l, wlt v
theorem wl_c {v : AV} {l : List AV} (h : WL (v :: l)) : wlt v ∧ WL l := ⟨h v List.mem_cons_self, fun w hw => h w (List.mem_cons_of_mem _ hw)⟩
theorem wl_k {v : AV} {l : List AV} (h1 : wlt v) (h2 : WL l) : WL (v :: l) := fun w hw => (List.mem_cons.mp hw).elim (fun e => by rw [e]; exact h1) (h2 w)
theorem vwl_0 : WL [] := fun v h => by cases h
theorem wl_nth : ∀ {L : List AV}, WL L → ∀ i, wlt (nth L i) := by
  intro L
  induction L with
  | nil => intro _ i; exact trivial
  | cons x t ih =>
    intro h i
    cases i with
    | zero => exact (wl_c h).1
    | succ i => exact ih (wl_c h).2 i
theorem wl_nst {v : AV} (hv : wlt v) : ∀ {L : List AV}, WL L → ∀ i, WL (nst L i v) := by
  intro L
  induction L with
  | nil => intro h i; exact h
  | cons x t ih =>
    intro h i
    cases i with
    | zero => exact wl_k hv (wl_c h).2
    | succ i => exact wl_k (wl_c h).1 (ih (wl_c h).2 i)
/-- an end that is told -/
def VOK (E : Env9) (o : OR) (r : VR) : Prop := ∃ (v : AV) (S L : List AV) (M' : Mem) (z : Nat), o = some [(r.1, E, v, S, L, M', 466, z)] ∧ (r.1.1 = 0 → v = r.2.1 ∧ wlt v) ∧ TS M' ∧ Vws M' r.2.2
def VS (E : Env9) (K : KK) (kv : VK) : Prop := ∀ (z : Nat) (L S : List AV) (f : Vw) (M : Mem) (r : VR), WL L → WL S → TS M → Vws M f → kv z L S f = some r → VOK E (K E 466 z L S M) r
/-! what stands on the stack -/
noncomputable def vS1 (S : List AV) (k : Nat → List AV → Option VR) : Option VR := match S with | .inl x :: S => k x S | _ => none
noncomputable def vS2 (S : List AV) (k : Nat → Nat → List AV → Option VR) : Option VR := match S with | .inl y :: .inl x :: S => k x y S | _ => none
noncomputable def vJ1 (S : List AV) (k : Nat → List AV → Option VR) : Option VR := match S with | .inr (.inr (.inl x)) :: S => k x S | _ => none
noncomputable def vJ2 (S : List AV) (k : Nat → Nat → List AV → Option VR) : Option VR := match S with | .inr (.inr (.inl y)) :: .inr (.inr (.inl x)) :: S => k x y S | _ => none
noncomputable def vIJ (S : List AV) (k : Nat → Nat → List AV → Option VR) : Option VR := match S with | .inl y :: .inr (.inr (.inl x)) :: S => k x y S | _ => none
noncomputable def vR1 (S : List AV) (k : Nat → List AV → Option VR) : Option VR := match S with | .inr (.inl a) :: S => k a S | _ => none
noncomputable def vIR (S : List AV) (k : Nat → Nat → List AV → Option VR) : Option VR := match S with | .inl j :: .inr (.inl a) :: S => k a j S | _ => none
noncomputable def vIIR (S : List AV) (k : Nat → Nat → Nat → List AV → Option VR) : Option VR := match S with | .inl x :: .inl j :: .inr (.inl a) :: S => k a j x S | _ => none
noncomputable def vJIR (S : List AV) (k : Nat → Nat → Nat → List AV → Option VR) : Option VR := match S with | .inr (.inr (.inl x)) :: .inl j :: .inr (.inl a) :: S => k a j x S | _ => none
noncomputable def vVR (S : List AV) (k : Nat → AV → List AV → Option VR) : Option VR := match S with | v :: .inr (.inl a) :: S => k a v S | _ => none
theorem vS1_some {S : List AV} {k : Nat → List AV → Option VR} {r : VR} (h : vS1 S k = some r) : ∃ x S', S = vI x :: S' ∧ k x S' = some r := by
  rcases S with _ | ⟨a, S⟩
  · cases h
  · rcases a with x | x | x | x | x | x | x | x
    · exact ⟨x, S, rfl, h⟩
    all_goals cases h
theorem vJ1_some {S : List AV} {k : Nat → List AV → Option VR} {r : VR} (h : vJ1 S k = some r) : ∃ x S', S = vJ x :: S' ∧ k x S' = some r := by
  rcases S with _ | ⟨a, S⟩
  · cases h
  · rcases a with x | x | x | x | x | x | x | x
    · cases h
    · cases h
    · exact ⟨x, S, rfl, h⟩
    all_goals cases h
theorem vR1_some {S : List AV} {k : Nat → List AV → Option VR} {r : VR} (h : vR1 S k = some r) : ∃ a S', S = vR a :: S' ∧ k a S' = some r := by
  rcases S with _ | ⟨a, S⟩
  · cases h
  · rcases a with x | x | x | x | x | x | x | x
    · cases h
    · exact ⟨x, S, rfl, h⟩
    all_goals cases h
theorem vS2_some {S : List AV} {k : Nat → Nat → List AV → Option VR} {r : VR} (h : vS2 S k = some r) : ∃ x y S', S = vI y :: vI x :: S' ∧ k x y S' = some r := by
  rcases S with _ | ⟨a, S⟩
  · cases h
  · rcases S with _ | ⟨b, S⟩
    · rcases a with x | x | x | x | x | x | x | x <;> cases h
    · rcases a with x | x | x | x | x | x | x | x
      · rcases b with y | y | y | y | y | y | y | y
        · exact ⟨y, x, S, rfl, h⟩
        all_goals cases h
      all_goals cases h
theorem vJ2_some {S : List AV} {k : Nat → Nat → List AV → Option VR} {r : VR} (h : vJ2 S k = some r) : ∃ x y S', S = vJ y :: vJ x :: S' ∧ k x y S' = some r := by
  rcases S with _ | ⟨a, S⟩
  · cases h
  · rcases S with _ | ⟨b, S⟩
    · rcases a with x | x | x | x | x | x | x | x <;> cases h
    · rcases a with x | x | x | x | x | x | x | x
      · cases h
      · cases h
      · rcases b with y | y | y | y | y | y | y | y
        · cases h
        · cases h
        · exact ⟨y, x, S, rfl, h⟩
        all_goals cases h
      all_goals cases h
theorem vIJ_some {S : List AV} {k : Nat → Nat → List AV → Option VR} {r : VR} (h : vIJ S k = some r) : ∃ x y S', S = vI y :: vJ x :: S' ∧ k x y S' = some r := by
  rcases S with _ | ⟨a, S⟩
  · cases h
  · rcases S with _ | ⟨b, S⟩
    · rcases a with x | x | x | x | x | x | x | x <;> cases h
    · rcases a with x | x | x | x | x | x | x | x
      · rcases b with y | y | y | y | y | y | y | y
        · cases h
        · cases h
        · exact ⟨y, x, S, rfl, h⟩
        all_goals cases h
      all_goals cases h
theorem vIR_some {S : List AV} {k : Nat → Nat → List AV → Option VR} {r : VR} (h : vIR S k = some r) : ∃ a j S', S = vI j :: vR a :: S' ∧ k a j S' = some r := by
  rcases S with _ | ⟨a, S⟩
  · cases h
  · rcases S with _ | ⟨b, S⟩
    · rcases a with x | x | x | x | x | x | x | x <;> cases h
    · rcases a with x | x | x | x | x | x | x | x
      · rcases b with y | y | y | y | y | y | y | y
        · cases h
        · exact ⟨y, x, S, rfl, h⟩
        all_goals cases h
      all_goals cases h
theorem vVR_some {S : List AV} {k : Nat → AV → List AV → Option VR} {r : VR} (h : vVR S k = some r) : ∃ a v S', S = v :: vR a :: S' ∧ k a v S' = some r := by
  rcases S with _ | ⟨a, S⟩
  · cases h
  · rcases S with _ | ⟨b, S⟩
    · cases h
    · rcases b with y | y | y | y | y | y | y | y
      · cases h
      · exact ⟨y, a, S, rfl, h⟩
      all_goals cases h
theorem vIIR_some {S : List AV} {k : Nat → Nat → Nat → List AV → Option VR} {r : VR} (h : vIIR S k = some r) : ∃ a j x S', S = vI x :: vI j :: vR a :: S' ∧ k a j x S' = some r := by
  rcases S with _ | ⟨v, S⟩
  · cases h
  · rcases v with x | x | x | x | x | x | x | x
    · obtain ⟨a, j, S', e1, e2⟩ := vIR_some (S := S) (k := fun a j S => k a j x S) (r := r) (by
        rcases S with _ | ⟨b, S⟩
        · cases h
        · rcases b with y | y | y | y | y | y | y | y
          · rcases S with _ | ⟨c, S⟩
            · cases h
            · rcases c with w | w | w | w | w | w | w | w
              · cases h
              · exact h
              all_goals cases h
          all_goals cases h)
      exact ⟨a, j, x, S', by rw [e1], e2⟩
    all_goals cases h
theorem vJIR_some {S : List AV} {k : Nat → Nat → Nat → List AV → Option VR} {r : VR} (h : vJIR S k = some r) : ∃ a j x S', S = vJ x :: vI j :: vR a :: S' ∧ k a j x S' = some r := by
  rcases S with _ | ⟨v, S⟩
  · cases h
  · rcases v with x | x | x | x | x | x | x | x
    · cases h
    · cases h
    · obtain ⟨a, j, S', e1, e2⟩ := vIR_some (S := S) (k := fun a j S => k a j x S) (r := r) (by
        rcases S with _ | ⟨b, S⟩
        · cases h
        · rcases b with y | y | y | y | y | y | y | y
          · rcases S with _ | ⟨c, S⟩
            · cases h
            · rcases c with w | w | w | w | w | w | w | w
              · cases h
              · exact h
              all_goals cases h
          all_goals cases h)
      exact ⟨a, j, x, S', by rw [e1], e2⟩
    all_goals cases h
end
section
/-! the view machine's steps -/
noncomputable def v_push (v : AV) (k : VK) : VK := fun z L S f => k z L (v :: S) f
noncomputable def v_ld (g : AV → Bool) (i : Nat) (k : VK) : VK := fun z L S f => gd (g (nth L i)) (k z L (nth L i :: S) f)
noncomputable def v_st (g : AV → Bool) (i : Nat) (k : VK) : VK := fun z L S f => match S with | v :: S => gd (g v) (gd (lk2 L i) (k z (nst L i v) S f)) | [] => none
noncomputable def v_st2 (g : AV → Bool) (i : Nat) (k : VK) : VK := fun z L S f => match S with | v :: S => gd (g v) (gd (lk2 L i) (k z (nst (nst L i v) (i + 1) (vW 3)) S f)) | [] => none
noncomputable def v_iinc (i c : Nat) (k : VK) : VK := fun z L S f => match nth L i with | .inl x => gd (lk2 L i) (k z (nst L i (vI ((x + c) % 4294967296))) S f) | _ => none
noncomputable def v_2 (g : Nat → Nat → Nat) (k : VK) : VK := fun z L S f => vS2 S fun x y S => k z L (vI (g x y) :: S) f
noncomputable def v_1 (g : Nat → Nat) (k : VK) : VK := fun z L S f => vS1 S fun x S => k z L (vI (g x) :: S) f
noncomputable def v_dup (k : VK) : VK := fun z L S f => match S with | a :: S => gd (Bool.rec true false (isC2 a)) (k z L (a :: a :: S) f) | _ => none
noncomputable def v_dup2 (k : VK) : VK := fun z L S f => match S with | a :: b :: S => gd (Bool.rec true false (isC2 a)) (gd (Bool.rec true false (isC2 b)) (k z L (a :: b :: a :: b :: S) f)) | _ => none
noncomputable def v_pop (k : VK) : VK := fun z L S f => match S with | a :: S => gd (Bool.rec true false (isC2 a)) (k z L S f) | _ => none
noncomputable def v_irem (k : VK) : VK := fun z L S f => vS2 S fun x y S => gd (Nat.ble 1 (y % 4294967296)) (k z L (vI (toN (nI x - nI x / nI y * nI y)) :: S) f)
noncomputable def v_i2l (k : VK) : VK := fun z L S f => vS1 S fun x S => k z L (vJ (toNL (nI x).toInt64) :: S) f
noncomputable def v_l2i (k : VK) : VK := fun z L S f => vJ1 S fun x S => k z L (vI (toN (lN x).toInt32) :: S) f
noncomputable def v_lb (g : Nat → Nat → Nat) (k : VK) : VK := fun z L S f => vJ2 S fun x y S => k z L (vJ (g x y) :: S) f
noncomputable def v_lsh (g : Nat → Nat → Nat) (k : VK) : VK := fun z L S f => vIJ S fun x y S => k z L (vJ (g x y) :: S) f
noncomputable def v_lcmp (k : VK) : VK := fun z L S f => vJ2 S fun x y S => k z L (vI (toN (lg_cmp (lN x) (lN y))) :: S) f
/-- what kind of thing stands in a cell; a field's kind -/
noncomputable def shO (a ci i : Nat) (t : Nat → Option VR) : Option VR := gd (Nat.ble (a + 1) 466) (match sh0 (kd0 a) with | .inl q => gd (Nat.beq q.1 ci) (match yat q.2 i with | some ft => t ft | none => none) | _ => none)
noncomputable def shA (a t j : Nat) (k : Option VR) : Option VR := gd (Nat.ble (a + 1) 466) (match sh0 (kd0 a) with | .inr (.inl q) => gd (Nat.beq q.1 t) (gd (Nat.ble (j + 1) q.2) k) | _ => none)
noncomputable def gft (f : Vw) (a i : Nat) (k : AV → Option VR) : Nat → Option VR := fun ft => match ft with
  | 0 => k (vI (f a i))
  | 1 => k (vJ (f a i))
  | _ + 2 => k (vR (rt0 a i))
noncomputable def v_getf (ci i : Nat) (k : VK) : VK := fun z L S f => vR1 S fun a S => shO a ci i (gft f a i fun v => k z L (v :: S) f)
noncomputable def v_putf (g : AV → Bool) (ci i : Nat) (k : VK) : VK := fun z L S f => vVR S fun a v S => gd (g v) (shO a ci i fun ft => match ft, v with
  | 0, .inl x => k z L S (vup f a i x)
  | 1, .inr (.inr (.inl x)) => k z L S (vup f a i x)
  | _, _ => none)
noncomputable def v_iald (t : Nat) (k : VK) : VK := fun z L S f => vIR S fun a j S => shA a t j (k z L (vI (f a j) :: S) f)
noncomputable def v_iast (k : VK) : VK := fun z L S f => vIIR S fun a j x S => shA a 0 j (k z L S (vup f a j x))
noncomputable def v_bast (k : VK) : VK := fun z L S f => vIIR S fun a j x S => gd (Nat.ble (a + 1) 466) (match sh0 (kd0 a) with
  | .inr (.inl q) => gd (Nat.ble (j + 1) q.2) (match q.1 with
    | 1 => k z L S (vup f a j (toN (nI x).toInt8.toInt32))
    | 2 => gd (Nat.ble x 1) (k z L S (vup f a j x))
    | _ => none)
  | _ => none)
noncomputable def v_aald (k : VK) : VK := fun z L S f => vIR S fun a j S => gd (Nat.ble (a + 1) 466) (match sh0 (kd0 a) with | .inr (.inr (.inl q)) => gd (Nat.ble (j + 1) q.2.1) (k z L (vR (rt0 a j) :: S) f) | _ => none)
noncomputable def v_lald (k : VK) : VK := fun z L S f => vIR S fun a j S => gd (Nat.ble (a + 1) 466) (match sh0 (kd0 a) with | .inr (.inr (.inr N)) => gd (Nat.ble (j + 1) N) (k z L (vJ (f a j) :: S) f) | _ => none)
noncomputable def v_last (k : VK) : VK := fun z L S f => vJIR S fun a j x S => gd (Nat.ble (a + 1) 466) (match sh0 (kd0 a) with | .inr (.inr (.inr N)) => gd (Nat.ble (j + 1) N) (k z L S (vup f a j x)) | _ => none)
noncomputable def v_alen (k : VK) : VK := fun z L S f => vR1 S fun a S => gd (Nat.ble (a + 1) 466) (match sh0 (kd0 a) with | .inr (.inl q) => gd (Nat.ble q.2 100000) (k z L (vI q.2 :: S) f) | _ => none)
noncomputable def vg (g : Nat) (as : List AV) : Bool := match g with
  | 0 => true
  | 1 => (match as with | .inr (.inl _) :: _ => true | _ => false)
  | 2 => gT as (trep (cO 0 []) 9)
  | ci + 3 => (match as with | .inr (.inl k) :: _ => Bool.rec false (match sh0 (kd0 k) with | .inl q => Nat.beq q.1 ci | _ => false) (Nat.ble (k + 1) 466) | _ => false)
/-- what follows a call: it answered, it gave nothing, it threw -/
noncomputable def vbn0 (o : Option VR) (k0 : AV → Vw → Option VR) (k1 : Vw → Option VR) (k2 : Nat → Vw → Option VR) : Option VR := match o with
  | some r => (match r.1.1 with
    | 0 => k0 r.2.1 r.2.2
    | 1 => k1 r.2.2
    | 2 => k2 r.1.2 r.2.2
    | _ => none)
  | none => none
theorem vbnd_ex : ∃ g : Option VR → (AV → Vw → Option VR) → (Vw → Option VR) → (Nat → Vw → Option VR) → Option VR, ∀ o k0 k1 k2, g o k0 k1 k2 = vbn0 o k0 k1 k2 := ⟨vbn0, fun _ _ _ _ => rfl⟩
/-- the same, so that nothing ever computes it -/
noncomputable def vbnd : Option VR → (AV → Vw → Option VR) → (Vw → Option VR) → (Nat → Vw → Option VR) → Option VR := Classical.choose vbnd_ex
theorem vbnd_is (o : Option VR) (k0 : AV → Vw → Option VR) (k1 : Vw → Option VR) (k2 : Nat → Vw → Option VR) : vbnd o k0 k1 k2 = vbn0 o k0 k1 k2 := Classical.choose_spec vbnd_ex o k0 k1 k2
theorem vbnd_0 {o : Option VR} {k0 : AV → Vw → Option VR} {k1 : Vw → Option VR} {k2 : Nat → Vw → Option VR} {b : Nat} {v : AV} {f : Vw} (h : o = some ((0, b), v, f)) : vbnd o k0 k1 k2 = k0 v f := by rw [vbnd_is, h]; rfl
theorem vbnd_1 {o : Option VR} {k0 : AV → Vw → Option VR} {k1 : Vw → Option VR} {k2 : Nat → Vw → Option VR} {b : Nat} {v : AV} {f : Vw} (h : o = some ((1, b), v, f)) : vbnd o k0 k1 k2 = k1 f := by rw [vbnd_is, h]; rfl
theorem vbnd_2 {o : Option VR} {k0 : AV → Vw → Option VR} {k1 : Vw → Option VR} {k2 : Nat → Vw → Option VR} {b : Nat} {v : AV} {f : Vw} (h : o = some ((2, b), v, f)) : vbnd o k0 k1 k2 = k2 b f := by rw [vbnd_is, h]; rfl
noncomputable def v_call (tx : Bool) (g y na bud B : Nat) (vc : VC) (k : VK) : VK := fun z L S f =>
  gd (Nat.ble na S.length) (gd (Nat.ble (catS (spl na [] S).2) 8) (gd (Nat.ble (z + bud) B) (gd (vg g (spl na [] S).1) (vbnd (vc y (spl na [] S).1 f)
    (fun v f' => k (z + bud) L (v :: (spl na [] S).2) f') (fun f' => k (z + bud) L (spl na [] S).2 f') (fun x f' => gd tx (some ((2, x), vW 3, f')))))))
/-- a piece of one row of ints copied to another -/
noncomputable def vcp (f : Vw) (a b sp dp N : Nat) : Vw := fun k i => if k = b ∧ dp ≤ i ∧ i < dp + N then f a (sp + (i - dp)) else f k i
noncomputable def v_copy (k : VK) : VK := fun z L S f => vIIR S fun b dp N S => vIR S fun a sp S => gd (Nat.ble 1 N) (shA a 0 (sp + (N - 1)) (shA b 0 (dp + (N - 1)) (gd (Nat.ble (catS S) 8) (gd (Nat.ble N 100000) (k z L S (vcp f a b sp dp N))))))
noncomputable def vi (vc : VC) (i : Ins) (k : VK) : VK := match i with
  | (n, a1, a2, a3, a4, a5, a6) => match n with
  | 0 => fun z L S f => gd (Nat.ble (a1 + 1) 4294967296) (v_push (vI a1) k z L S f)
  | 1 => v_push (vJ a1) k
  | 2 => v_push (vW a1) k
  | 5 => v_ld (fP a1) a2 k
  | 6 => v_st (fP a1) a2 k
  | 7 => v_st2 (fP a1) a2 k
  | 8 => v_iinc a1 a2 k
  | 9 => v_2 (fun x y => (x + y) % 4294967296) k
  | 10 => v_2 (gB9 a1) k
  | 11 => v_1 (gU9 a1) k
  | 12 => v_dup k
  | 13 => v_dup2 k
  | 14 => v_pop k
  | 15 => v_irem k
  | 16 => v_i2l k
  | 17 => v_l2i k
  | 18 => v_lb g_lor k
  | 19 => v_lsh (gS9 a1) k
  | 20 => v_lcmp k
  | 21 => v_getf a1 a2 k
  | 22 => v_putf (fP a1) a2 a3 k
  | 23 => v_iald a1 k
  | 24 => v_iast k
  | 25 => v_bast k
  | 26 => v_aald k
  | 27 => v_lald k
  | 28 => v_last k
  | 29 => v_alen k
  | 30 => v_copy k
  | 31 => v_call false a1 a2 a3 a4 a5 vc k
  | 32 => v_call true a1 a2 a3 a4 a5 vc k
  | _ => fun _ _ _ _ => none
/-! where a block goes on -/
theorem bv_ex : ∃ g : Nat → Nat, ∀ x, g x = bi x := ⟨bi, fun _ => rfl⟩
/-- bi and the compare, so that nothing ever computes them -/
noncomputable def bv : Nat → Nat := Classical.choose bv_ex
theorem bv_is (x : Nat) : bv x = bi x := Classical.choose_spec bv_ex x
theorem vc3_ex : ∃ g : Nat → Nat → Option VR → Option VR → Option VR → Option VR, ∀ u w a b c, g u w a b c = Bool.rec (Bool.rec c b (Nat.beq u w)) a (Nat.ble (u + 1) w) := ⟨fun u w a b c => Bool.rec (Bool.rec c b (Nat.beq u w)) a (Nat.ble (u + 1) w), fun _ _ _ _ _ => rfl⟩
noncomputable def vc3 : Nat → Nat → Option VR → Option VR → Option VR → Option VR := Classical.choose vc3_ex
theorem vc3_is (u w : Nat) (a b c : Option VR) : vc3 u w a b c = Bool.rec (Bool.rec c b (Nat.beq u w)) a (Nat.ble (u + 1) w) := Classical.choose_spec vc3_ex u w a b c
noncomputable def vt (vc : VC) (i : Tin) (j : Nat → VK) : VK := match i with
  | ((n, a1, a2, a3, a4, a5, a6), ts) => match n with
  | 0 => j a1
  | 1 => fun z L S f => vS2 S fun x y S => vc3 (bv x) (bv y) (j a1 z L S f) (j a2 z L S f) (j a3 z L S f)
  | 2 => fun z L S f => vS1 S fun x S => vc3 (bv x) (bv 0) (j a1 z L S f) (j a2 z L S f) (j a3 z L S f)
  | 3 => fun z L S f => vS1 S fun x S => gd (Nat.ble x 4294967295) (j (nthN ts a1 x) z L S f)
  | 4 => fun z _ S f => match S with | v :: S => (match S with | [] => gd (fP a1 v) (gd (Nat.ble z a2) (some ((0, 0), v, f))) | _ => none) | _ => none
  | 5 => fun z _ S f => match S with | _ :: _ => none | [] => gd (Nat.ble z a1) (some ((1, 0), vW 3, f))
  | 6 => fun z _ S f => match S with | [] => gd (Nat.ble (z + 7) a2) (some ((2, a1), vW 3, f)) | _ => none
  | 7 => fun z L S f => gd (Nat.ble a3 S.length) (gd (Nat.ble (catS (spl a3 [] S).2) 8) (gd (Nat.ble (z + a4) a5) (gd (vg a1 (spl a3 [] S).1) (vbnd (vc a2 (spl a3 [] S).1 f)
    (fun v f' => j a6 (z + a4) L (v :: (spl a3 [] S).2) f') (fun f' => j a6 (z + a4) L (spl a3 [] S).2 f') (fun x f' => Nat.rec none (fun b _ => j b (z + a4) L [vW 1] f') (nthN ts 0 x))))))
  | _ => fun _ _ _ _ => none
noncomputable def vB (vc : VC) (j : Nat → VK) (t : Tin) (l : List Ins) : VK := List.rec (motive := fun _ => VK) (vt vc t j) (fun i _ ih => vi vc i ih) l
noncomputable def vFn0 (vc : VC) (code : List DB) (n : Nat) : Nat → VK := Nat.rec (motive := fun _ => Nat → VK) (fun _ _ _ _ _ => none) (fun _ ih b => match yat code b with | some q => vB vc ih q.2 q.1 | none => fun _ _ _ _ => none) n
theorem vFn_ex : ∃ g : VC → List DB → Nat → Nat → VK, ∀ vc code n, g vc code n = vFn0 vc code n := ⟨vFn0, fun _ _ _ => rfl⟩
/-- the same, so that nothing ever computes it -/
noncomputable def vFn : VC → List DB → Nat → Nat → VK := Classical.choose vFn_ex
theorem vFn_is (vc : VC) (code : List DB) (n : Nat) : vFn vc code n = vFn0 vc code n := Classical.choose_spec vFn_ex vc code n
/-- the texts of the parsers: their length, their signs -/
def txWd : List (List Nat) := [[112, 97, 115, 115], [102, 97, 105, 114], [116, 101, 115, 116], [100, 105, 115, 109, 105, 115, 115], [119, 97, 103, 101], [102, 117, 110, 100], [116, 114, 97, 105, 110], [102, 111, 103], [101, 99, 104, 111], [118, 97, 108, 108, 101, 121], [116, 101, 115, 116, 101, 100]]
noncomputable def vLen (as : List AV) (f : Vw) : Option VR := match as with
  | .inr (.inr (.inr (.inr (.inr (.inl w))))) :: [] => gd (Nat.ble 20 w) (gd (Nat.ble w 30) (some ((0, 0), vI (nthL txWd (w - 20)).length, f)))
  | _ => none
noncomputable def vChr (as : List AV) (f : Vw) : Option VR := match as with
  | .inr (.inr (.inr (.inr (.inr (.inl w))))) :: .inl i :: [] => gd (Nat.ble 20 w) (gd (Nat.ble w 30) (gd (Nat.ble (i + 1) (nthL txWd (w - 20)).length) (some ((0, 0), vI (nthN (nthL txWd (w - 20)) 0 i), f))))
  | _ => none
theorem fu_ex : ∃ F : Nat, F = 1000000 := ⟨1000000, rfl⟩
/-- the fuel, so that nothing counts it down -/
noncomputable def fuM : Nat := Classical.choose fu_ex
theorem fuM_is : fuM = 1000000 := Classical.choose_spec fu_ex
theorem fu9 : ∃ F, fuM = F + 60 := ⟨999940, fuM_is⟩
noncomputable def vM (MT : Nat → Option MDT) (D : Nat) : VC := Nat.rec (motive := fun _ => VC) (fun _ _ _ => none) (fun _ ih y as f => Bool.rec (Bool.rec (match MT y with | some md => gd (Nat.ble (flatL as).length md.1) (vFn ih md.2.1 fuM 0 0 (iniL md.1 as) [] f) | none => none) (vChr as f) (Nat.beq y 339)) (vLen as f) (Nat.beq y 338)) D
end
section
/-! what the view machine gives, the machine gives: its steps -/
theorem gB9_lt (a x y : Nat) : gB9 a x y < 4294967296 := by
  match a with
  | 0 => exact Nat.mod_lt _ (by decide)
  | 1 => exact toN_lt _
  | 2 => exact toN_lt _
  | 3 => exact toN_lt _
  | 4 => exact toN_lt _
  | 5 => exact toN_lt _
  | a + 6 => exact toN_lt _
theorem gU9_lt (a x : Nat) : gU9 a x < 4294967296 := by
  match a with
  | 0 => exact toN_lt _
  | 1 => exact toN_lt _
  | a + 2 => exact toN_lt _
section VSTEP
variable {E : Env9} {K : KK} {kv : VK} {call : Call}
theorem w_push {v : AV} (hv : wlt v) (hK : VS E K kv) : VS E (op_push v call K) (v_push v kv) := fun z L S f M r hL hS hT hf h => hK z L (v :: S) f M r hL (wl_k hv hS) hT hf h
theorem w_ld {g : AV → Bool} {i : Nat} (hK : VS E K kv) : VS E (op_ld g i call K) (v_ld g i kv) := by
  intro z L S f M r hL hS hT hf h
  obtain ⟨h1, h2⟩ := gd_some (show gd (g (nth L i)) (kv z L (nth L i :: S) f) = some r from h)
  show VOK E (gd (g (nth L i)) (K E 466 z L (nth L i :: S) M)) r
  rw [h1]
  exact hK z L _ f M r hL (wl_k (wl_nth hL i) hS) hT hf h2
theorem w_st {g : AV → Bool} {i : Nat} (hK : VS E K kv) : VS E (op_st g i call K) (v_st g i kv) := by
  intro z L S f M r hL hS hT hf h
  rcases S with _ | ⟨v, S⟩
  · cases h
  obtain ⟨h1, h⟩ := gd_some (show gd (g v) (gd (lk2 L i) (kv z (nst L i v) S f)) = some r from h)
  obtain ⟨h2, h3⟩ := gd_some h
  show VOK E (gd (g v) (gd (lk2 L i) (K E 466 z (nst L i v) S M))) r
  rw [h1, h2]
  exact hK z _ S f M r (wl_nst (wl_c hS).1 hL i) (wl_c hS).2 hT hf h3
theorem w_st2 {g : AV → Bool} {i : Nat} (hK : VS E K kv) : VS E (op_st2 g i call K) (v_st2 g i kv) := by
  intro z L S f M r hL hS hT hf h
  rcases S with _ | ⟨v, S⟩
  · cases h
  obtain ⟨h1, h⟩ := gd_some (show gd (g v) (gd (lk2 L i) (kv z (nst (nst L i v) (i + 1) (vW 3)) S f)) = some r from h)
  obtain ⟨h2, h3⟩ := gd_some h
  show VOK E (gd (g v) (gd (lk2 L i) (K E 466 z (nst (nst L i v) (i + 1) (vW 3)) S M))) r
  rw [h1, h2]
  exact hK z _ S f M r (wl_nst (v := vW 3) trivial (wl_nst (wl_c hS).1 hL i) (i + 1)) (wl_c hS).2 hT hf h3
theorem w_iinc {i c : Nat} (hK : VS E K kv) : VS E (op_iinc i c call K) (v_iinc i c kv) := by
  intro z L S f M r hL hS hT hf h
  have h : (match nth L i with | .inl x => gd (lk2 L i) (kv z (nst L i (vI ((x + c) % 4294967296))) S f) | _ => none) = some r := h
  cases e : nth L i with
  | inr v => rw [e] at h; cases h
  | inl x =>
    rw [e] at h
    obtain ⟨h1, h2⟩ := gd_some (show gd (lk2 L i) (kv z (nst L i (vI ((x + c) % 4294967296))) S f) = some r from h)
    have e2 : op_iinc i c call K E 466 z L S M = K E 466 z (nst L i (vI ((x + c) % 4294967296))) S M := by
      show gd (isI (nth L i)) (gd (lk2 L i) (addK (nth L i) (vI c) fun r => K E 466 z (nst L i r) S M)) = _
      rw [e, h1]
      show fN ((x + c) % 4294967296) (fun r => K E 466 z (nst L i (vI r)) S M) = _
      rw [fN_eq]
    rw [e2]
    exact hK z _ S f M r (wl_nst (v := vI ((x + c) % 4294967296)) (Nat.mod_lt _ (by omega)) hL i) hS hT hf h2
theorem w_2 {g : Nat → Nat → Nat} {op : Op1} (hop : ∀ (z : Nat) (L S : List AV) (M : Mem) (x y : Nat), op call K E 466 z L (vI y :: vI x :: S) M = K E 466 z L (vI (g x y) :: S) M) (hg : ∀ x y, g x y < 4294967296) (hK : VS E K kv) : VS E (op call K) (v_2 g kv) := by
  intro z L S f M r hL hS hT hf h
  obtain ⟨x, y, S', rfl, h1⟩ := vS2_some (show vS2 S (fun x y S => kv z L (vI (g x y) :: S) f) = some r from h)
  rw [hop]
  exact hK z L _ f M r hL (wl_k (v := vI (g x y)) (hg x y) (wl_c (wl_c hS).2).2) hT hf h1
theorem w_1 {g : Nat → Nat} (hg : ∀ x, g x < 4294967296) (hK : VS E K kv) : VS E (op_un g call K) (v_1 g kv) := by
  intro z L S f M r hL hS hT hf h
  obtain ⟨x, S', rfl, h1⟩ := vS1_some (show vS1 S (fun x S => kv z L (vI (g x) :: S) f) = some r from h)
  show VOK E (fN (g x) (fun r => K E 466 z L (vI r :: S') M)) r
  rw [fN_eq]
  exact hK z L _ f M r hL (wl_k (v := vI (g x)) (hg x) (wl_c hS).2) hT hf h1
theorem w_dup (hK : VS E K kv) : VS E (op_dup call K) (v_dup kv) := by
  intro z L S f M r hL hS hT hf h
  rcases S with _ | ⟨v, S⟩
  · cases h
  obtain ⟨h1, h2⟩ := gd_some (show gd (Bool.rec true false (isC2 v)) (kv z L (v :: v :: S) f) = some r from h)
  show VOK E (gd (Bool.rec true false (isC2 v)) (K E 466 z L (v :: v :: S) M)) r
  rw [h1]
  exact hK z L _ f M r hL (wl_k (wl_c hS).1 hS) hT hf h2
theorem w_dup2 (hK : VS E K kv) : VS E (op_dup2 call K) (v_dup2 kv) := by
  intro z L S f M r hL hS hT hf h
  rcases S with _ | ⟨v, S⟩
  · cases h
  rcases S with _ | ⟨w, S⟩
  · cases h
  obtain ⟨h1, h⟩ := gd_some (show gd (Bool.rec true false (isC2 v)) (gd (Bool.rec true false (isC2 w)) (kv z L (v :: w :: v :: w :: S) f)) = some r from h)
  obtain ⟨h2, h3⟩ := gd_some h
  show VOK E (gd (Bool.rec true false (isC2 v)) (gd (Bool.rec true false (isC2 w)) (K E 466 z L (v :: w :: v :: w :: S) M))) r
  rw [h1, h2]
  exact hK z L _ f M r hL (wl_k (wl_c hS).1 (wl_k (wl_c (wl_c hS).2).1 hS)) hT hf h3
theorem w_pop (hK : VS E K kv) : VS E (op_pop call K) (v_pop kv) := by
  intro z L S f M r hL hS hT hf h
  rcases S with _ | ⟨v, S⟩
  · cases h
  obtain ⟨h1, h2⟩ := gd_some (show gd (Bool.rec true false (isC2 v)) (kv z L S f) = some r from h)
  show VOK E (gd (Bool.rec true false (isC2 v)) (K E 466 z L S M)) r
  rw [h1]
  exact hK z L _ f M r hL (wl_c hS).2 hT hf h2
theorem w_irem (hK : VS E K kv) : VS E (op_irem call K) (v_irem kv) := by
  intro z L S f M r hL hS hT hf h
  obtain ⟨x, y, S', rfl, h1⟩ := vS2_some (show vS2 S (fun x y S => gd (Nat.ble 1 (y % 4294967296)) (kv z L (vI (toN (nI x - nI x / nI y * nI y)) :: S) f)) = some r from h)
  obtain ⟨h2, h3⟩ := gd_some h1
  rw [op_irem_n (Nat.le_of_ble_eq_true h2)]
  exact hK z L _ f M r hL (wl_k (v := vI (toN (nI x - nI x / nI y * nI y))) (toN_lt _) (wl_c (wl_c hS).2).2) hT hf h3
theorem w_i2l (hK : VS E K kv) : VS E (op_i2l call K) (v_i2l kv) := by
  intro z L S f M r hL hS hT hf h
  obtain ⟨x, S', rfl, h1⟩ := vS1_some (show vS1 S (fun x S => kv z L (vJ (toNL (nI x).toInt64) :: S) f) = some r from h)
  show VOK E (fN (toNL (nI x).toInt64) (fun r => K E 466 z L (vJ r :: S') M)) r
  rw [fN_eq]
  exact hK z L _ f M r hL (wl_k (v := vJ (toNL (nI x).toInt64)) trivial (wl_c hS).2) hT hf h1
theorem w_l2i (hK : VS E K kv) : VS E (op_l2i call K) (v_l2i kv) := by
  intro z L S f M r hL hS hT hf h
  obtain ⟨x, S', rfl, h1⟩ := vJ1_some (show vJ1 S (fun x S => kv z L (vI (toN (lN x).toInt32) :: S) f) = some r from h)
  show VOK E (fN (toN (lN x).toInt32) (fun r => K E 466 z L (vI r :: S') M)) r
  rw [fN_eq]
  exact hK z L _ f M r hL (wl_k (v := vI (toN (lN x).toInt32)) (toN_lt _) (wl_c hS).2) hT hf h1
theorem w_lb {g : Nat → Nat → Nat} (hK : VS E K kv) : VS E (op_lbin g call K) (v_lb g kv) := by
  intro z L S f M r hL hS hT hf h
  obtain ⟨x, y, S', rfl, h1⟩ := vJ2_some (show vJ2 S (fun x y S => kv z L (vJ (g x y) :: S) f) = some r from h)
  show VOK E (fN (g x y) (fun r => K E 466 z L (vJ r :: S') M)) r
  rw [fN_eq]
  exact hK z L _ f M r hL (wl_k (v := vJ (g x y)) trivial (wl_c (wl_c hS).2).2) hT hf h1
theorem w_lsh {g : Nat → Nat → Nat} (hK : VS E K kv) : VS E (op_lsh g call K) (v_lsh g kv) := by
  intro z L S f M r hL hS hT hf h
  obtain ⟨x, y, S', rfl, h1⟩ := vIJ_some (show vIJ S (fun x y S => kv z L (vJ (g x y) :: S) f) = some r from h)
  show VOK E (fN (g x y) (fun r => K E 466 z L (vJ r :: S') M)) r
  rw [fN_eq]
  exact hK z L _ f M r hL (wl_k (v := vJ (g x y)) trivial (wl_c (wl_c hS).2).2) hT hf h1
theorem w_lcmp (hK : VS E K kv) : VS E (op_lcmp call K) (v_lcmp kv) := by
  intro z L S f M r hL hS hT hf h
  obtain ⟨x, y, S', rfl, h1⟩ := vJ2_some (show vJ2 S (fun x y S => kv z L (vI (toN (lg_cmp (lN x) (lN y))) :: S) f) = some r from h)
  show VOK E (fN (toN (lg_cmp (lN x) (lN y))) (fun r => K E 466 z L (vI r :: S') M)) r
  rw [fN_eq]
  exact hK z L _ f M r hL (wl_k (v := vI (toN (lg_cmp (lN x) (lN y)))) (toN_lt _) (wl_c (wl_c hS).2).2) hT hf h1
end VSTEP
end
section
/-! the view machine: the memory, calls, blocks, methods -/
theorem vws_set {M : Mem} {f : Vw} {a i x : Nat} {c' : Cel} (hf : Vws M f) (ha : a < 466) (h1 : rNc c' i = x) (h2 : ∀ i', i' ≠ i → rNc c' i' = rNc (tget 9 M a) i') : Vws (tset 9 M a c') (vup f a i x) := by
  intro k hk i'
  show rNc (tget 9 (tset 9 M a c') k) i' = if k = a ∧ i' = i then x else f k i'
  rw [tget_tset 9 M a k c' (show a < 512 by omega) (show k < 512 by omega)]
  by_cases e : k = a
  · rw [if_pos e]
    by_cases e2 : i' = i
    · rw [if_pos ⟨e, e2⟩, e2]; exact h1
    · rw [if_neg (fun q => e2 q.2), h2 i' e2, ← e]; exact hf k hk i'
  · rw [if_neg e, if_neg (fun q => e q.1)]; exact hf k hk i'
theorem shO_some {a ci i : Nat} {t : Nat → Option VR} {r : VR} (h : shO a ci i t = some r) : a < 466 ∧ ∃ q ft, sh0 (kd0 a) = .inl q ∧ q.1 = ci ∧ q.2[i]? = some ft ∧ t ft = some r := by
  obtain ⟨h1, h⟩ := gd_some (show gd (Nat.ble (a + 1) 466) (match sh0 (kd0 a) with | .inl q => gd (Nat.beq q.1 ci) (match yat q.2 i with | some ft => t ft | none => none) | _ => none) = some r from h)
  refine ⟨Nat.le_of_ble_eq_true h1, ?_⟩
  generalize sh0 (kd0 a) = s9 at h ⊢
  rcases s9 with q | q | q | q
  · obtain ⟨h2, h⟩ := gd_some (show gd (Nat.beq q.1 ci) (match yat q.2 i with | some ft => t ft | none => none) = some r from h)
    cases e : yat q.2 i with
    | none => rw [e] at h; cases h
    | some ft =>
      rw [e] at h
      rw [yat_eq] at e
      exact ⟨q, ft, rfl, Nat.eq_of_beq_eq_true h2, e, h⟩
  all_goals cases h
theorem shA_some {a t j : Nat} {k : Option VR} {r : VR} (h : shA a t j k = some r) : a < 466 ∧ ∃ q, sh0 (kd0 a) = .inr (.inl q) ∧ q.1 = t ∧ j < q.2 ∧ k = some r := by
  obtain ⟨h1, h⟩ := gd_some (show gd (Nat.ble (a + 1) 466) (match sh0 (kd0 a) with | .inr (.inl q) => gd (Nat.beq q.1 t) (gd (Nat.ble (j + 1) q.2) k) | _ => none) = some r from h)
  refine ⟨Nat.le_of_ble_eq_true h1, ?_⟩
  generalize sh0 (kd0 a) = s9 at h ⊢
  rcases s9 with q | q | q | q
  · cases h
  · obtain ⟨h2, h⟩ := gd_some (show gd (Nat.beq q.1 t) (gd (Nat.ble (j + 1) q.2) k) = some r from h)
    obtain ⟨h3, h⟩ := gd_some h
    exact ⟨q, rfl, Nat.eq_of_beq_eq_true h2, Nat.le_of_ble_eq_true h3, h⟩
  all_goals cases h
theorem len_at {α : Type} {l : List α} {i : Nat} {x : α} (h : l[i]? = some x) : i < l.length := (List.getElem?_eq_some_iff.mp h).1
theorem arr_ok {a x j : Nat} {q : Nat × Nat} {p : Nat} (hs : sh0 (kd0 a) = .inr (.inl q)) (hN : q.2 ≤ 100000) : cOK kd0 sh0 rt0 bdF a (cI q.1 q.2 (pset p j x) []) := by
  unfold cOK
  rw [hs]
  exact ⟨_, rfl, hN, fun j _ => sg_any _⟩
section VMEM
variable {E : Env9} {K : KK} {kv : VK} {call : Call}
theorem w_getf {ci i : Nat} (hK : VS E K kv) : VS E (op_getf ci i call K) (v_getf ci i kv) := by
  intro z L S f M r hL hS hT hf h
  obtain ⟨a, S', rfl, h⟩ := vR1_some (show vR1 S (fun a S => shO a ci i fun ft => match ft with
    | 0 => kv z L (vI (f a i) :: S) f
    | 1 => kv z L (vJ (f a i) :: S) f
    | _ + 2 => kv z L (vR (rt0 a i) :: S) f) = some r from h)
  obtain ⟨ha, q, ft, hs, rfl, hi, h⟩ := shO_some h
  obtain ⟨fs, e1, e2, e3⟩ := co_obj (bd := bdF) hT ha hs
  have h9 := e3 i ft hi
  have hv : rN1 (nth fs i) = f a i := by
    rw [← hf a ha i]
    show _ = rNc (tget 9 M a) i
    rw [e1]
    rfl
  rw [op_getf_n e1 (by rw [e2]; exact len_at hi)]
  match ft, h9, h with
  | 0, h9, h =>
    obtain ⟨x, x1, x2, -⟩ := h9
    rw [x1] at hv ⊢
    have hv : x = f a i := hv
    rw [hv]
    exact hK z L _ f M r hL (wl_k (v := vI (f a i)) (by show f a i < 4294967296; rw [← hv]; exact x2) (wl_c hS).2) hT hf h
  | 1, h9, h =>
    obtain ⟨x, x1⟩ := h9
    rw [x1] at hv ⊢
    have hv : x = f a i := hv
    rw [hv]
    exact hK z L _ f M r hL (wl_k (v := vJ (f a i)) trivial (wl_c hS).2) hT hf h
  | t + 2, h9, h =>
    rw [h9.1]
    exact hK z L _ f M r hL (wl_k (v := vR (rt0 a i)) trivial (wl_c hS).2) hT hf h
theorem w_putf {g : AV → Bool} {ci i : Nat} (hK : VS E K kv) : VS E (op_putf g ci i call K) (v_putf g ci i kv) := by
  intro z L S f M r hL hS hT hf h
  obtain ⟨a, v, S', rfl, h⟩ := vVR_some (show vVR S (fun a v S => gd (g v) (shO a ci i fun ft => match ft, v with
    | 0, .inl x => kv z L S (vup f a i x)
    | 1, .inr (.inr (.inl x)) => kv z L S (vup f a i x)
    | _, _ => none)) = some r from h)
  obtain ⟨hg, h⟩ := gd_some h
  obtain ⟨ha, q, ft, hs, rfl, hi, h⟩ := shO_some h
  obtain ⟨fs, e1, e2, e3⟩ := co_obj (bd := bdF) hT ha hs
  have hl : i < fs.length := by rw [e2]; exact len_at hi
  rw [op_putf_n hg e1 hl]
  have key : ∀ x : Nat, rN1 v = x → fOK kd0 rt0 bdF a i ft v → kv z L S' (vup f a i x) = some r → VOK E (K E 466 z L S' (tset 9 M a (cO q.1 (nst fs i v)))) r := by
    intro x hx hfo h
    refine hK z L S' _ _ r hL (wl_c (wl_c hS).2).2 ?_ ?_ h
    · refine ti_set hT ha ?_
      unfold cOK
      rw [hs]
      exact ⟨_, rfl, by rw [nst_len]; exact e2, fOK_nst e3 (fun ft' h' => by rw [hi] at h'; cases h'; exact hfo)⟩
    · refine vws_set hf ha ?_ (fun i' h' => ?_)
      · show rN1 (nth (nst fs i v) i) = x
        rw [nth_nst, if_pos ⟨rfl, hl⟩]
        exact hx
      · rw [e1]
        show rN1 (nth (nst fs i v) i') = rN1 (nth fs i')
        rw [nth_nst, if_neg (fun w => h' w.1)]
  match ft, hi, h, key with
  | 0, hi, h, key =>
    rcases v with x | x | x | x | x | x | x | x
    · exact key x rfl ⟨x, rfl, (wl_c hS).1, sg_any x⟩ h
    all_goals cases h
  | 1, hi, h, key =>
    rcases v with x | x | x | x | x | x | x | x
    · cases h
    · cases h
    · exact key x rfl ⟨x, rfl⟩ h
    all_goals cases h
  | t + 2, hi, h, key => cases h
theorem w_iald {t : Nat} (hK : VS E K kv) : VS E (op_iald t call K) (v_iald t kv) := by
  intro z L S f M r hL hS hT hf h
  obtain ⟨a, j, S', rfl, h⟩ := vIR_some (show vIR S (fun a j S => shA a t j (kv z L (vI (f a j) :: S) f)) = some r from h)
  obtain ⟨ha, q, hs, rfl, hj, h⟩ := shA_some h
  obtain ⟨p, e1, e2, -⟩ := co_arr (bd := bdF) hT ha hs
  have hv : pget p j = f a j := by
    rw [← hf a ha j]
    show _ = rNc (tget 9 M a) j
    rw [e1]
    rfl
  rw [op_iald_n e1 hj, hv]
  exact hK z L _ f M r hL (wl_k (v := vI (f a j)) (by show f a j < 4294967296; rw [← hv]; exact pget_lt p j) (wl_c (wl_c hS).2).2) hT hf h
theorem vws_arr {M : Mem} {f : Vw} {a j x t N p : Nat} (hf : Vws M f) (ha : a < 466) (e : tget 9 M a = cI t N p []) (hx : x < 4294967296) : Vws (tset 9 M a (cI t N (pset p j x) [])) (vup f a j x) := by
  refine vws_set hf ha ?_ (fun i' h' => ?_)
  · show pget (pset p j x) j = x
    rw [pget_pset, if_pos rfl, Nat.mod_eq_of_lt hx]
  · rw [e]
    show pget (pset p j x) i' = pget p i'
    rw [pget_pset, if_neg h']
theorem w_iast (hK : VS E K kv) : VS E (op_iast call K) (v_iast kv) := by
  intro z L S f M r hL hS hT hf h
  obtain ⟨a, j, x, S', rfl, h⟩ := vIIR_some (show vIIR S (fun a j x S => shA a 0 j (kv z L S (vup f a j x))) = some r from h)
  obtain ⟨ha, q, hs, hq, hj, h⟩ := shA_some h
  obtain ⟨p, e1, e2, -⟩ := co_arr (bd := bdF) hT ha hs
  have a1 := arr_ok (x := x) (j := j) (p := p) hs e2
  rw [hq] at e1 a1
  rw [op_iast_n e1 hj]
  exact hK z L S' _ _ r hL (wl_c (wl_c (wl_c hS).2).2).2 (ti_set hT ha a1) (vws_arr hf ha e1 (wl_c hS).1) h
theorem w_bast (hK : VS E K kv) : VS E (op_bast call K) (v_bast kv) := by
  intro z L S f M r hL hS hT hf h
  obtain ⟨a, j, x, S', rfl, h⟩ := vIIR_some (show vIIR S (fun a j x S => gd (Nat.ble (a + 1) 466) (match sh0 (kd0 a) with
    | .inr (.inl q) => gd (Nat.ble (j + 1) q.2) (match q.1 with
      | 1 => kv z L S (vup f a j (toN (nI x).toInt8.toInt32))
      | 2 => gd (Nat.ble x 1) (kv z L S (vup f a j x))
      | _ => none)
    | _ => none)) = some r from h)
  obtain ⟨ha, h⟩ := gd_some h
  have ha : a < 466 := Nat.le_of_ble_eq_true ha
  cases hs : sh0 (kd0 a) with
  | inl q => rw [hs] at h; cases h
  | inr s9 =>
    cases s9 with
    | inr s9 => rw [hs] at h; cases h
    | inl q =>
      rw [hs] at h
      obtain ⟨hj, h⟩ := gd_some (show gd (Nat.ble (j + 1) q.2) (match q.1 with
        | 1 => kv z L S' (vup f a j (toN (nI x).toInt8.toInt32))
        | 2 => gd (Nat.ble x 1) (kv z L S' (vup f a j x))
        | _ => none) = some r from h)
      have hj : j < q.2 := Nat.le_of_ble_eq_true hj
      obtain ⟨p, e1, e2, -⟩ := co_arr (bd := bdF) hT ha hs
      obtain ⟨t, N⟩ := q
      match t, hs, h, e1 with
      | 0, hs, h, e1 => cases h
      | 1, hs, h, e1 =>
        rw [op_bast1_n e1 hj]
        exact hK z L S' _ _ r hL (wl_c (wl_c (wl_c hS).2).2).2 (ti_set hT ha (arr_ok (q := (1, N)) hs e2)) (vws_arr hf ha e1 (toN_lt _)) h
      | 2, hs, h, e1 =>
        obtain ⟨h1, h⟩ := gd_some (show gd (Nat.ble x 1) (kv z L S' (vup f a j x)) = some r from h)
        rw [op_bast2_n e1 hj (Nat.le_of_ble_eq_true h1)]
        exact hK z L S' _ _ r hL (wl_c (wl_c (wl_c hS).2).2).2 (ti_set hT ha (arr_ok (q := (2, N)) hs e2)) (vws_arr hf ha e1 (wl_c hS).1) h
      | t + 3, hs, h, e1 => cases h
theorem w_aald (hK : VS E K kv) : VS E (op_aald call K) (v_aald kv) := by
  intro z L S f M r hL hS hT hf h
  obtain ⟨a, j, S', rfl, h⟩ := vIR_some (show vIR S (fun a j S => gd (Nat.ble (a + 1) 466) (match sh0 (kd0 a) with | .inr (.inr (.inl q)) => gd (Nat.ble (j + 1) q.2.1) (kv z L (vR (rt0 a j) :: S) f) | _ => none)) = some r from h)
  obtain ⟨ha, h⟩ := gd_some h
  have ha : a < 466 := Nat.le_of_ble_eq_true ha
  cases hs : sh0 (kd0 a) with
  | inl q => rw [hs] at h; cases h
  | inr s9 =>
    cases s9 with
    | inl s9 => rw [hs] at h; cases h
    | inr s9 =>
      cases s9 with
      | inr s9 => rw [hs] at h; cases h
      | inl q =>
        rw [hs] at h
        obtain ⟨hj, h⟩ := gd_some (show gd (Nat.ble (j + 1) q.2.1) (kv z L (vR (rt0 a j) :: S') f) = some r from h)
        have hj : j < q.2.1 := Nat.le_of_ble_eq_true hj
        obtain ⟨xs, e1, e2, e3⟩ := co_ref (bd := bdF) hT ha hs
        rw [op_aald_n e1 (by rw [e2]; exact hj), (e3 j hj).1]
        exact hK z L _ f M r hL (wl_k (v := vR (rt0 a j)) trivial (wl_c (wl_c hS).2).2) hT hf h
theorem w_lald (hK : VS E K kv) : VS E (op_lald call K) (v_lald kv) := by
  intro z L S f M r hL hS hT hf h
  obtain ⟨a, j, S', rfl, h⟩ := vIR_some (show vIR S (fun a j S => gd (Nat.ble (a + 1) 466) (match sh0 (kd0 a) with | .inr (.inr (.inr N)) => gd (Nat.ble (j + 1) N) (kv z L (vJ (f a j) :: S) f) | _ => none)) = some r from h)
  obtain ⟨ha, h⟩ := gd_some h
  have ha : a < 466 := Nat.le_of_ble_eq_true ha
  cases hs : sh0 (kd0 a) with
  | inl q => rw [hs] at h; cases h
  | inr s9 =>
    cases s9 with
    | inl s9 => rw [hs] at h; cases h
    | inr s9 =>
      cases s9 with
      | inl s9 => rw [hs] at h; cases h
      | inr N =>
        rw [hs] at h
        obtain ⟨hj, h⟩ := gd_some (show gd (Nat.ble (j + 1) N) (kv z L (vJ (f a j) :: S') f) = some r from h)
        have hj : j < N := Nat.le_of_ble_eq_true hj
        obtain ⟨xs, e1, e2, e3⟩ := co_lng (bd := bdF) hT ha hs
        obtain ⟨y, hy⟩ := e3 j hj
        have hv : y = f a j := by
          rw [← hf a ha j]
          show y = rNc (tget 9 M a) j
          rw [e1]
          show y = rN1 (nth xs j)
          rw [hy]
          rfl
        rw [op_lald_n e1 (by rw [e2]; exact hj), hy, hv]
        exact hK z L _ f M r hL (wl_k (v := vJ (f a j)) trivial (wl_c (wl_c hS).2).2) hT hf h
theorem w_last (hK : VS E K kv) : VS E (op_last call K) (v_last kv) := by
  intro z L S f M r hL hS hT hf h
  obtain ⟨a, j, x, S', rfl, h⟩ := vJIR_some (show vJIR S (fun a j x S => gd (Nat.ble (a + 1) 466) (match sh0 (kd0 a) with | .inr (.inr (.inr N)) => gd (Nat.ble (j + 1) N) (kv z L S (vup f a j x)) | _ => none)) = some r from h)
  obtain ⟨ha, h⟩ := gd_some h
  have ha : a < 466 := Nat.le_of_ble_eq_true ha
  cases hs : sh0 (kd0 a) with
  | inl q => rw [hs] at h; cases h
  | inr s9 =>
    cases s9 with
    | inl s9 => rw [hs] at h; cases h
    | inr s9 =>
      cases s9 with
      | inl s9 => rw [hs] at h; cases h
      | inr N =>
        rw [hs] at h
        obtain ⟨hj, h⟩ := gd_some (show gd (Nat.ble (j + 1) N) (kv z L S' (vup f a j x)) = some r from h)
        have hj : j < N := Nat.le_of_ble_eq_true hj
        obtain ⟨xs, e1, e2, e3⟩ := co_lng (bd := bdF) hT ha hs
        have hl : j < xs.length := by rw [e2]; exact hj
        rw [op_last_n e1 hl]
        refine hK z L S' _ _ r hL (wl_c (wl_c (wl_c hS).2).2).2 (ti_set hT ha ?_) (vws_set hf ha ?_ (fun i' h' => ?_)) h
        · unfold cOK
          rw [hs]
          refine ⟨_, rfl, by rw [nst_len]; exact e2, fun j' hj' => ?_⟩
          rw [nth_nst]
          by_cases e : j' = j ∧ j < xs.length
          · rw [if_pos e]; exact ⟨x, rfl⟩
          · rw [if_neg e]; exact e3 j' hj'
        · show rN1 (nth (nst xs j (vJ x)) j) = x
          rw [nth_nst, if_pos ⟨rfl, hl⟩]
          rfl
        · rw [e1]
          show rN1 (nth (nst xs j (vJ x)) i') = rN1 (nth xs i')
          rw [nth_nst, if_neg (fun w => h' w.1)]
theorem w_alen (hK : VS E K kv) : VS E (op_alen call K) (v_alen kv) := by
  intro z L S f M r hL hS hT hf h
  obtain ⟨a, S', rfl, h⟩ := vR1_some (show vR1 S (fun a S => gd (Nat.ble (a + 1) 466) (match sh0 (kd0 a) with | .inr (.inl q) => gd (Nat.ble q.2 100000) (kv z L (vI q.2 :: S) f) | _ => none)) = some r from h)
  obtain ⟨ha, h⟩ := gd_some h
  have ha : a < 466 := Nat.le_of_ble_eq_true ha
  cases hs : sh0 (kd0 a) with
  | inl q => rw [hs] at h; cases h
  | inr s9 =>
    cases s9 with
    | inr s9 => rw [hs] at h; cases h
    | inl q =>
      rw [hs] at h
      obtain ⟨hn, h⟩ := gd_some (show gd (Nat.ble q.2 100000) (kv z L (vI q.2 :: S') f) = some r from h)
      obtain ⟨p, e1, e2, -⟩ := co_arr (bd := bdF) hT ha hs
      show VOK E (match tget 9 M a with
        | .inr (.inl q) => K E 466 z L (vI q.2.1 :: S') M
        | _ => none) r
      rw [e1]
      exact hK z L _ f M r hL (wl_k (v := vI q.2) (by show q.2 < 4294967296; omega) (wl_c hS).2) hT hf h
theorem w_copy (hK : VS E K kv) : VS E (op_copy call K) (v_copy kv) := by
  intro z L S f M r hL hS hT hf h
  obtain ⟨b, dp, N, S1, rfl, h9⟩ := vIIR_some (show vIIR S (fun b dp N S => vIR S fun a sp S => gd (Nat.ble 1 N) (shA a 0 (sp + (N - 1)) (shA b 0 (dp + (N - 1)) (gd (Nat.ble (catS S) 8) (gd (Nat.ble N 100000) (kv z L S (vcp f a b sp dp N))))))) = some r from h)
  clear h
  obtain ⟨a, sp, S2, rfl, h8⟩ := vIR_some h9
  clear h9
  obtain ⟨h1, h⟩ := gd_some h8
  obtain ⟨ha, qa, sa, ta, ja, h⟩ := shA_some h
  obtain ⟨hb, qb, sb, tb, jb, h⟩ := shA_some h
  obtain ⟨h2, h⟩ := gd_some h
  obtain ⟨h3, h⟩ := gd_some h
  have h1 := Nat.le_of_ble_eq_true h1
  obtain ⟨pa, ea, -, -⟩ := co_arr (bd := bdF) hT ha sa
  obtain ⟨pb, eb, eb2, -⟩ := co_arr (bd := bdF) hT hb sb
  rw [ta] at ea
  rw [tb] at eb
  rw [op_copy_n ea eb (by omega) (by omega) (Nat.le_of_ble_eq_true h2) (Nat.le_of_ble_eq_true h3)]
  refine hK z L S2 _ _ r hL (wl_c (wl_c (wl_c (wl_c (wl_c hS).2).2).2).2).2 (ti_set hT hb ?_) ?_ h
  · unfold cOK
    rw [sb]
    exact ⟨pcpy pa pb sp dp N, by rw [tb], eb2, fun j _ => sg_any _⟩
  · intro k hk i'
    show rNc (tget 9 (tset 9 M b (cI 0 qb.2 (pcpy pa pb sp dp N) [])) k) i' = if k = b ∧ dp ≤ i' ∧ i' < dp + N then f a (sp + (i' - dp)) else f k i'
    rw [tget_tset 9 M b k _ (show b < 512 by omega) (show k < 512 by omega)]
    by_cases e : k = b
    · rw [if_pos e]
      show pget (pcpy pa pb sp dp N) i' = _
      rw [pget_pcpy]
      by_cases q : dp ≤ i' ∧ i' < dp + N
      · rw [if_pos q, if_pos ⟨e, q⟩, ← hf a ha]
        show _ = rNc (tget 9 M a) _
        rw [ea]
        rfl
      · rw [if_neg q, if_neg (fun w => q w.2), ← hf k hk, e]
        show _ = rNc (tget 9 M b) i'
        rw [eb]
        rfl
    · rw [if_neg e, if_neg (fun w => e w.1)]
      exact hf k hk i'
end VMEM
end
section
/-! the view machine: calls, blocks, methods -/
theorem wl_spl : ∀ (na : Nat) (acc S : List AV), na ≤ S.length → WL acc → WL S → WL (spl na acc S).1 ∧ WL (spl na acc S).2 := by
  intro na
  induction na with
  | zero => intro acc S _ h1 h2; exact ⟨h1, h2⟩
  | succ na ih =>
    intro acc S hn h1 h2
    cases S with
    | nil => simp at hn
    | cons v S => exact ih (v :: acc) S (by simpa using hn) (wl_k (wl_c h2).1 h1) (wl_c h2).2
theorem vg_ok {g : Nat} {as : List AV} {M : Mem} (hT : TS M) (h : vg g as = true) : gN g as M = true := by
  match g, h with
  | 0, h => rfl
  | 1, h =>
    rcases as with _ | ⟨a, as⟩
    · cases h
    · rcases a with x | x | x | x | x | x | x | x
      · cases h
      · rfl
      all_goals cases h
  | 2, h => exact h
  | ci + 3, h =>
    rcases as with _ | ⟨a, as⟩
    · cases h
    · rcases a with x | k | x | x | x | x | x | x
      · cases h
      · obtain ⟨h1, h2⟩ := band (show (Bool.rec false (match sh0 (kd0 k) with | .inl q => Nat.beq q.1 ci | _ => false) (Nat.ble (k + 1) 466) : Bool) = true from h)
        have hk : k < 466 := Nat.le_of_ble_eq_true h1
        cases hs : sh0 (kd0 k) with
        | inr s9 => rw [hs] at h2; cases h2
        | inl q =>
          rw [hs] at h2
          obtain ⟨fs, e1, -, -⟩ := co_obj (bd := bdF) hT hk hs
          show (match tget 9 M k with | .inl q => Nat.beq q.1 ci | _ => false : Bool) = true
          rw [e1]
          exact h2
      all_goals cases h
/-- calls that are told -/
def VCk (E : Env9) (call : Call) (vc : VC) : Prop := ∀ (y : Nat) (as : List AV) (f : Vw) (M : Mem) (r : VR), WL as → TS M → Vws M f → vc y as f = some r → VOK E (call y E 466 as M) r
section VCALL
variable {E : Env9} {K : KK} {kv : VK} {call : Call} {vc : VC}
theorem w_call {g y na bud B : Nat} (hC : VCk E call vc) (hK : VS E K kv) : VS E (op_call (gN g) y na bud B call K) (v_call false g y na bud B vc kv) := by
  intro z L S f M r hL hS hT hf h
  obtain ⟨h1, h⟩ := gd_some h
  obtain ⟨h2, h⟩ := gd_some h
  obtain ⟨h3, h⟩ := gd_some h
  obtain ⟨h4, h⟩ := gd_some h
  obtain ⟨w1, w2⟩ := wl_spl na [] S (Nat.le_of_ble_eq_true h1) vwl_0 hS
  unfold op_call
  rw [h1, h2, h3, vg_ok hT h4]
  have h : vbnd (vc y (spl na [] S).1 f) (fun v f' => kv (z + bud) L (v :: (spl na [] S).2) f') (fun f' => kv (z + bud) L (spl na [] S).2 f') (fun x f' => gd false (some ((2, x), vW 3, f'))) = some r := h
  rw [vbnd_is] at h
  cases hx : vc y (spl na [] S).1 f with
  | none => rw [hx] at h; cases h
  | some rc =>
    rw [hx] at h
    obtain ⟨⟨a, b⟩, rv, rf⟩ := rc
    obtain ⟨v, S', L', M', z', e, hv, hT', hf'⟩ := hC y _ f M _ w1 hT hf hx
    rw [e]
    refine (show VOK E (joinR (fun r => match r with
      | ((0, _), E', v, _, _, M', n', _) => fN n' fun n' => K E' n' (z + bud) L (v :: (spl na [] S).2) M'
      | ((1, _), E', _, _, _, M', n', _) => fN n' fun n' => K E' n' (z + bud) L (spl na [] S).2 M'
      | _ => none) [((a, b), E, v, S', L', M', 466, z')]) r from ?_)
    rw [joinR_1]
    match a, h, hv with
    | 0, h, hv =>
      obtain ⟨hv1, hv2⟩ := hv rfl
      have hv1 : v = rv := hv1
      show VOK E (fN 466 fun n' => K E n' (z + bud) L (v :: (spl na [] S).2) M') r
      rw [fN_eq, hv1]
      exact hK (z + bud) L _ rf M' r hL (wl_k (by rw [← hv1]; exact hv2) w2) hT' hf' h
    | 1, h, hv =>
      show VOK E (fN 466 fun n' => K E n' (z + bud) L (spl na [] S).2 M') r
      rw [fN_eq]
      exact hK (z + bud) L _ rf M' r hL w2 hT' hf' h
    | 2, h, hv => cases h
    | n + 3, h, hv => cases h
theorem w_callX {g y na bud B : Nat} (hC : VCk E call vc) (hK : VS E K kv) : VS E (op_callX (gN g) y na bud B call K) (v_call true g y na bud B vc kv) := by
  intro z L S f M r hL hS hT hf h
  obtain ⟨h1, h⟩ := gd_some h
  obtain ⟨h2, h⟩ := gd_some h
  obtain ⟨h3, h⟩ := gd_some h
  obtain ⟨h4, h⟩ := gd_some h
  obtain ⟨w1, w2⟩ := wl_spl na [] S (Nat.le_of_ble_eq_true h1) vwl_0 hS
  unfold op_callX
  rw [h1, h2, h3, vg_ok hT h4]
  have h : vbnd (vc y (spl na [] S).1 f) (fun v f' => kv (z + bud) L (v :: (spl na [] S).2) f') (fun f' => kv (z + bud) L (spl na [] S).2 f') (fun x f' => gd true (some ((2, x), vW 3, f'))) = some r := h
  rw [vbnd_is] at h
  cases hx : vc y (spl na [] S).1 f with
  | none => rw [hx] at h; cases h
  | some rc =>
    rw [hx] at h
    obtain ⟨⟨a, b⟩, rv, rf⟩ := rc
    obtain ⟨v, S', L', M', z', e, hv, hT', hf'⟩ := hC y _ f M _ w1 hT hf hx
    rw [e]
    refine (show VOK E (joinR (fun r => match r with
      | ((0, _), E', v, _, _, M', n', _) => fN n' fun n' => K E' n' (z + bud) L (v :: (spl na [] S).2) M'
      | ((1, _), E', _, _, _, M', n', _) => fN n' fun n' => K E' n' (z + bud) L (spl na [] S).2 M'
      | ((2, x), E', _, _, _, M', n', _) => fN n' fun n' => some [((2, x), E', vW 3, [], [], M', n', z + bud)]
      | _ => none) [((a, b), E, v, S', L', M', 466, z')]) r from ?_)
    rw [joinR_1]
    match a, h, hv with
    | 0, h, hv =>
      obtain ⟨hv1, hv2⟩ := hv rfl
      have hv1 : v = rv := hv1
      show VOK E (fN 466 fun n' => K E n' (z + bud) L (v :: (spl na [] S).2) M') r
      rw [fN_eq, hv1]
      exact hK (z + bud) L _ rf M' r hL (wl_k (by rw [← hv1]; exact hv2) w2) hT' hf' h
    | 1, h, hv =>
      show VOK E (fN 466 fun n' => K E n' (z + bud) L (spl na [] S).2 M') r
      rw [fN_eq]
      exact hK (z + bud) L _ rf M' r hL w2 hT' hf' h
    | 2, h, hv =>
      have h : some (((2, b), vW 3, rf) : VR) = some r := h
      cases h
      show VOK E (fN 466 fun n' => some [((2, b), E, vW 3, [], [], M', n', z + bud)]) _
      rw [fN_eq]
      exact ⟨vW 3, [], [], M', z + bud, rfl, (fun q => by cases q), hT', hf'⟩
    | n + 3, h, hv => cases h
theorem vi_ok (hC : VCk E call vc) (hK : VS E K kv) (i : Ins) : VS E (dn 0 i call K) (vi vc i kv) := by
  obtain ⟨n, a1, a2, a3, a4, a5, a6⟩ := i
  match n with
  | 0 =>
    intro z L S f M r hL hS hT hf h
    obtain ⟨h1, h2⟩ := gd_some (show gd (Nat.ble (a1 + 1) 4294967296) (v_push (vI a1) kv z L S f) = some r from h)
    exact w_push (call := call) (v := vI a1) (Nat.le_of_ble_eq_true h1) hK z L S f M r hL hS hT hf h2
  | 1 => exact w_push (call := call) (v := vJ a1) trivial hK
  | 2 => exact w_push (call := call) (v := vW a1) trivial hK
  | 3 => exact fun z L S f M r _ _ _ _ h => nomatch (show (none : Option VR) = some r from h)
  | 4 => exact fun z L S f M r _ _ _ _ h => nomatch (show (none : Option VR) = some r from h)
  | 5 => exact w_ld (call := call) hK
  | 6 => exact w_st (call := call) hK
  | 7 => exact w_st2 (call := call) hK
  | 8 => exact w_iinc (call := call) hK
  | 9 => exact w_2 (call := call) (fun z L S M x y => op_add_n (call := call)) (fun x y => Nat.mod_lt _ (by omega)) hK
  | 10 => exact w_2 (call := call) (fun z L S M x y => op_bin_n (call := call)) (gB9_lt a1) hK
  | 11 => exact w_1 (call := call) (gU9_lt a1) hK
  | 12 => exact w_dup (call := call) hK
  | 13 => exact w_dup2 (call := call) hK
  | 14 => exact w_pop (call := call) hK
  | 15 => exact w_irem (call := call) hK
  | 16 => exact w_i2l (call := call) hK
  | 17 => exact w_l2i (call := call) hK
  | 18 => exact w_lb (call := call) hK
  | 19 => exact w_lsh (call := call) hK
  | 20 => exact w_lcmp (call := call) hK
  | 21 => exact w_getf (call := call) hK
  | 22 => exact w_putf (call := call) hK
  | 23 => exact w_iald (call := call) hK
  | 24 => exact w_iast (call := call) hK
  | 25 => exact w_bast (call := call) hK
  | 26 => exact w_aald (call := call) hK
  | 27 => exact w_lald (call := call) hK
  | 28 => exact w_last (call := call) hK
  | 29 => exact w_alen (call := call) hK
  | 30 => exact w_copy (call := call) hK
  | 31 => exact w_call (call := call) hC hK
  | 32 => exact w_callX (call := call) hC hK
  | n + 33 => exact fun z L S f M r _ _ _ _ h => nomatch (show (none : Option VR) = some r from h)
theorem vc3_ok {u w : Nat} {a b c : OR} {a' b' c' : Option VR} {r : VR} (ha : a' = some r → VOK E a r) (hb : b' = some r → VOK E b r) (hc : c' = some r → VOK E c r) (h : vc3 u w a' b' c' = some r) : VOK E (c3 u w a b c) r := by
  rw [vc3_is] at h
  show VOK E (Bool.rec (Bool.rec c b (Nat.beq u w)) a (Nat.ble (u + 1) w) : OR) r
  cases h1 : Nat.ble (u + 1) w with
  | true => rw [h1] at h; exact ha h
  | false =>
    rw [h1] at h
    cases h2 : Nat.beq u w with
    | true => rw [h2] at h; exact hb h
    | false => rw [h2] at h; exact hc h
variable {j : Jmp} {jv : Nat → VK}
theorem cmp3_II {x y : Nat} {E : Env9} {kl ke kg : Env9 → OR} : cmp3 (vI x) (vI y) E kl ke kg = c3 (bi x) (bi y) (kl E) (ke E) (kg E) := rfl
theorem vt_cmp {x y a1 a2 a3 z : Nat} {L S : List AV} {M : Mem} {r : VR} {o1 o2 o3 : Option VR} (h1 : o1 = some r → VOK E (j a1 E 466 z L S M) r) (h2 : o2 = some r → VOK E (j a2 E 466 z L S M) r) (h3 : o3 = some r → VOK E (j a3 E 466 z L S M) r) (h : vc3 (bv x) (bv y) o1 o2 o3 = some r) : VOK E (cmp3 (vI x) (vI y) E (fun E => j a1 E 466 z L S M) (fun E => j a2 E 466 z L S M) (fun E => j a3 E 466 z L S M)) r := by
  rw [bv_is, bv_is] at h
  rw [cmp3_II]
  generalize bi x = u at h ⊢
  generalize bi y = w at h ⊢
  exact vc3_ok h1 h2 h3 h
theorem tm_icmp_e {a b : AV} {a1 a2 a3 n z : Nat} {L S : List AV} {M : Mem} : tm_icmp a1 a2 a3 call j E n z L (b :: a :: S) M = cmp3 a b E (fun E => j a1 E n z L S M) (fun E => j a2 E n z L S M) (fun E => j a3 E n z L S M) := rfl
theorem tm_if_e {a : AV} {a1 a2 a3 n z : Nat} {L S : List AV} {M : Mem} : tm_if a1 a2 a3 call j E n z L (a :: S) M = cmp3 a (vI 0) E (fun E => j a1 E n z L S M) (fun E => j a2 E n z L S M) (fun E => j a3 E n z L S M) := rfl
theorem dtm_1 {a1 a2 a3 a4 a5 a6 : Nat} {ts : List Nat} : dtm 0 ((1, a1, a2, a3, a4, a5, a6), ts) = tm_icmp a1 a2 a3 := rfl
theorem dtm_2 {a1 a2 a3 a4 a5 a6 : Nat} {ts : List Nat} : dtm 0 ((2, a1, a2, a3, a4, a5, a6), ts) = tm_if a1 a2 a3 := rfl
theorem vt_1 (hJ : ∀ b, VS E (j b) (jv b)) (a1 a2 a3 a4 a5 a6 : Nat) (ts : List Nat) : VS E (dtm 0 ((1, a1, a2, a3, a4, a5, a6), ts) call j) (vt vc ((1, a1, a2, a3, a4, a5, a6), ts) jv) := by
  intro z L S f M r hL hS hT hf h
  rw [dtm_1]
  obtain ⟨x, y, S', rfl, h9⟩ := vS2_some (show vS2 S (fun x y S => vc3 (bv x) (bv y) (jv a1 z L S f) (jv a2 z L S f) (jv a3 z L S f)) = some r from h)
  clear h
  rw [tm_icmp_e]
  exact vt_cmp (o1 := jv a1 z L S' f) (o2 := jv a2 z L S' f) (o3 := jv a3 z L S' f) (hJ a1 z L S' f M r hL (wl_c (wl_c hS).2).2 hT hf) (hJ a2 z L S' f M r hL (wl_c (wl_c hS).2).2 hT hf) (hJ a3 z L S' f M r hL (wl_c (wl_c hS).2).2 hT hf) h9
theorem vt_2 (hJ : ∀ b, VS E (j b) (jv b)) (a1 a2 a3 a4 a5 a6 : Nat) (ts : List Nat) : VS E (dtm 0 ((2, a1, a2, a3, a4, a5, a6), ts) call j) (vt vc ((2, a1, a2, a3, a4, a5, a6), ts) jv) := by
  intro z L S f M r hL hS hT hf h
  rw [dtm_2]
  obtain ⟨x, S', rfl, h9⟩ := vS1_some (show vS1 S (fun x S => vc3 (bv x) (bv 0) (jv a1 z L S f) (jv a2 z L S f) (jv a3 z L S f)) = some r from h)
  clear h
  rw [tm_if_e]
  exact vt_cmp (o1 := jv a1 z L S' f) (o2 := jv a2 z L S' f) (o3 := jv a3 z L S' f) (hJ a1 z L S' f M r hL (wl_c hS).2 hT hf) (hJ a2 z L S' f M r hL (wl_c hS).2 hT hf) (hJ a3 z L S' f M r hL (wl_c hS).2 hT hf) h9
theorem vt_3 (hJ : ∀ b, VS E (j b) (jv b)) (a1 a2 a3 a4 a5 a6 : Nat) (ts : List Nat) : VS E (dtm 0 ((3, a1, a2, a3, a4, a5, a6), ts) call j) (vt vc ((3, a1, a2, a3, a4, a5, a6), ts) jv) := by
  intro z L S f M r hL hS hT hf h
  obtain ⟨x, S', rfl, h9⟩ := vS1_some (k := fun x S => gd (Nat.ble x 4294967295) (jv (nthN ts a1 x) z L S f)) (show vS1 S (fun x S => gd (Nat.ble x 4294967295) (jv (nthN ts a1 x) z L S f)) = some r from h)
  obtain ⟨h1, h2⟩ := gd_some h9
  show VOK E (gd (Nat.ble x 4294967295) (j (nthN ts a1 x) E 466 z L S' M)) r
  rw [h1]
  exact hJ _ z L S' f M r hL (wl_c hS).2 hT hf h2
theorem vt_4 (hJ : ∀ b, VS E (j b) (jv b)) (a1 a2 a3 a4 a5 a6 : Nat) (ts : List Nat) : VS E (dtm 0 ((4, a1, a2, a3, a4, a5, a6), ts) call j) (vt vc ((4, a1, a2, a3, a4, a5, a6), ts) jv) := by
  intro z L S f M r hL hS hT hf h
  rcases S with _ | ⟨v, S⟩
  · cases h
  rcases S with _ | ⟨w, S⟩
  · obtain ⟨h1, h⟩ := gd_some (show gd (fP a1 v) (gd (Nat.ble z a2) (some (((0, 0), v, f) : VR))) = some r from h)
    obtain ⟨h2, h⟩ := gd_some h
    cases h
    show VOK E (gd (fP a1 v) (gd (Nat.ble z a2) (some [((0, 0), E, v, [], [], M, 466, z)]))) _
    rw [h1, h2]
    exact ⟨v, [], [], M, z, rfl, fun _ => ⟨rfl, (wl_c hS).1⟩, hT, hf⟩
  · cases h
theorem vt_5 (hJ : ∀ b, VS E (j b) (jv b)) (a1 a2 a3 a4 a5 a6 : Nat) (ts : List Nat) : VS E (dtm 0 ((5, a1, a2, a3, a4, a5, a6), ts) call j) (vt vc ((5, a1, a2, a3, a4, a5, a6), ts) jv) := by
  intro z L S f M r hL hS hT hf h
  rcases S with _ | ⟨v, S⟩
  · obtain ⟨h1, h⟩ := gd_some (show gd (Nat.ble z a1) (some (((1, 0), vW 3, f) : VR)) = some r from h)
    cases h
    show VOK E (gd (Nat.ble z a1) (some [((1, 0), E, vW 3, [], [], M, 466, z)])) _
    rw [h1]
    exact ⟨vW 3, [], [], M, z, rfl, (fun q => by cases q), hT, hf⟩
  · cases h
theorem vt_6 (hJ : ∀ b, VS E (j b) (jv b)) (a1 a2 a3 a4 a5 a6 : Nat) (ts : List Nat) : VS E (dtm 0 ((6, a1, a2, a3, a4, a5, a6), ts) call j) (vt vc ((6, a1, a2, a3, a4, a5, a6), ts) jv) := by
  intro z L S f M r hL hS hT hf h
  rcases S with _ | ⟨v, S⟩
  · obtain ⟨h1, h⟩ := gd_some (show gd (Nat.ble (z + 7) a2) (some (((2, a1), vW 3, f) : VR)) = some r from h)
    cases h
    show VOK E (gd (Nat.ble (z + 7) a2) (some [((2, a1), E, vW 3, [], [], M, 466, z)])) _
    rw [h1]
    exact ⟨vW 3, [], [], M, z, rfl, (fun q => by cases q), hT, hf⟩
  · cases h
theorem vt_7 (hC : VCk E call vc) (hJ : ∀ b, VS E (j b) (jv b)) (a1 a2 a3 a4 a5 a6 : Nat) (ts : List Nat) : VS E (dtm 0 ((7, a1, a2, a3, a4, a5, a6), ts) call j) (vt vc ((7, a1, a2, a3, a4, a5, a6), ts) jv) := by
  intro z L S f M r hL hS hT hf h
  have h : gd (Nat.ble a3 S.length) (gd (Nat.ble (catS (spl a3 [] S).2) 8) (gd (Nat.ble (z + a4) a5) (gd (vg a1 (spl a3 [] S).1) (vbnd (vc a2 (spl a3 [] S).1 f) (fun v f' => jv a6 (z + a4) L (v :: (spl a3 [] S).2) f') (fun f' => jv a6 (z + a4) L (spl a3 [] S).2 f') (fun x f' => Nat.rec none (fun b _ => jv b (z + a4) L [vW 1] f') (nthN ts 0 x)))))) = some r := h
  obtain ⟨h1, h⟩ := gd_some h
  obtain ⟨h2, h⟩ := gd_some h
  obtain ⟨h3, h⟩ := gd_some h
  obtain ⟨h4, h⟩ := gd_some h
  have h1 : Nat.ble a3 S.length = true := h1
  have h2 : Nat.ble (catS (spl a3 [] S).2) 8 = true := h2
  have h3 : Nat.ble (z + a4) a5 = true := h3
  have h4 : vg a1 (spl a3 [] S).1 = true := h4
  obtain ⟨w1, w2⟩ := wl_spl a3 [] S (Nat.le_of_ble_eq_true h1) vwl_0 hS
  show VOK E (tm_callH (gN a1) a2 a3 a4 (a5 + 0) a6 ts call j E 466 z L S M) r
  unfold tm_callH
  rw [h1, h2, show Nat.ble (z + a4) (a5 + 0) = true from h3, vg_ok hT h4]
  have h : vbnd (vc a2 (spl a3 [] S).1 f) (fun v f' => jv a6 (z + a4) L (v :: (spl a3 [] S).2) f') (fun f' => jv a6 (z + a4) L (spl a3 [] S).2 f') (fun x f' => Nat.rec none (fun b _ => jv b (z + a4) L [vW 1] f') (nthN ts 0 x)) = some r := h
  rw [vbnd_is] at h
  cases hx : vc a2 (spl a3 [] S).1 f with
  | none => rw [hx] at h; cases h
  | some rc =>
    rw [hx] at h
    obtain ⟨⟨a, b⟩, rv, rf⟩ := rc
    obtain ⟨v, S', L', M', z', e, hv, hT', hf'⟩ := hC a2 _ f M _ w1 hT hf hx
    rw [e]
    refine (show VOK E (joinR (fun r => match r with
      | ((0, _), E', v, _, _, M', n', _) => fN n' fun n' => j a6 E' n' (z + a4) L (v :: (spl a3 [] S).2) M'
      | ((1, _), E', _, _, _, M', n', _) => fN n' fun n' => j a6 E' n' (z + a4) L (spl a3 [] S).2 M'
      | ((2, x), E', _, _, _, M', n', _) => fN n' fun n' => hcase (nthN ts 0 x) fun b => j b E' n' (z + a4) L [vW 1] M'
      | _ => none) [((a, b), E, v, S', L', M', 466, z')]) r from ?_)
    rw [joinR_1]
    match a, h, hv with
    | 0, h, hv =>
      obtain ⟨hv1, hv2⟩ := hv rfl
      have hv1 : v = rv := hv1
      show VOK E (fN 466 fun n' => j a6 E n' (z + a4) L (v :: (spl a3 [] S).2) M') r
      rw [fN_eq, hv1]
      exact hJ a6 (z + a4) L _ rf M' r hL (wl_k (by rw [← hv1]; exact hv2) w2) hT' hf' h
    | 1, h, hv =>
      show VOK E (fN 466 fun n' => j a6 E n' (z + a4) L (spl a3 [] S).2 M') r
      rw [fN_eq]
      exact hJ a6 (z + a4) L _ rf M' r hL w2 hT' hf' h
    | 2, h, hv =>
      show VOK E (fN 466 fun n' => hcase (nthN ts 0 b) fun b => j b E n' (z + a4) L [vW 1] M') r
      rw [fN_eq]
      have h : (Nat.rec none (fun b _ => jv b (z + a4) L [vW 1] rf) (nthN ts 0 b) : Option VR) = some r := h
      cases hn : nthN ts 0 b with
      | zero => rw [hn] at h; cases h
      | succ c =>
        rw [hn] at h
        exact hJ c (z + a4) L _ rf M' r hL (wl_k (v := vW 1) trivial vwl_0) hT' hf' h
    | n + 3, h, hv => cases h
theorem vt_ok (hC : VCk E call vc) (hJ : ∀ b, VS E (j b) (jv b)) (i : Tin) : VS E (dtm 0 i call j) (vt vc i jv) := by
  obtain ⟨⟨n, a1, a2, a3, a4, a5, a6⟩, ts⟩ := i
  match n with
  | 0 => exact hJ a1
  | 1 => exact vt_1 hJ a1 a2 a3 a4 a5 a6 ts
  | 2 => exact vt_2 hJ a1 a2 a3 a4 a5 a6 ts
  | 3 => exact vt_3 hJ a1 a2 a3 a4 a5 a6 ts
  | 4 => exact vt_4 hJ a1 a2 a3 a4 a5 a6 ts
  | 5 => exact vt_5 hJ a1 a2 a3 a4 a5 a6 ts
  | 6 => exact vt_6 hJ a1 a2 a3 a4 a5 a6 ts
  | 7 => exact vt_7 hC hJ a1 a2 a3 a4 a5 a6 ts
  | n + 8 => exact fun z L S f M r _ _ _ _ h => nomatch (show (none : Option VR) = some r from h)
theorem vB_ok (hC : VCk E call vc) (hJ : ∀ b, VS E (j b) (jv b)) (t : Tin) : ∀ l : List Ins, VS E (runB call j (dtm 0 t) (dnL 0 l)) (vB vc jv t l) := by
  intro l
  induction l with
  | nil => exact vt_ok hC hJ t
  | cons i l ih => exact vi_ok hC ih i
theorem vF_ok (hC : VCk E call vc) {d : Nat} {ct : TrT Blk d} {code : List DB} (hcode : ∀ b q, yat code b = some q → tget d ct b = dnB 0 q) : ∀ (n f : Nat), n ≤ f → ∀ b, VS E (runF call d ct f b) (vFn vc code n b) := by
  intro n
  induction n with
  | zero =>
    intro f _ b z L S g M r _ _ _ _ h
    rw [vFn_is] at h
    exact nomatch (show (none : Option VR) = some r from h)
  | succ n ih =>
    intro f hf b
    obtain ⟨f', rfl⟩ : ∃ f', f = f' + 1 := ⟨f - 1, by omega⟩
    intro z L S g M r hL hS hT hv h
    rw [vFn_is] at h
    have h : (match yat code b with | some q => vB vc (vFn0 vc code n) q.2 q.1 | none => fun _ _ _ _ => none : VK) z L S g = some r := h
    rw [← vFn_is] at h
    cases hb : yat code b with
    | none => rw [hb] at h; cases h
    | some q =>
      rw [hb] at h
      show VOK E (runB call (runF call d ct f') (tget d ct b).2 (tget d ct b).1 E 466 z L S M) r
      rw [hcode b q hb]
      exact vB_ok hC (fun b' => ih f' (by omega) b') q.2 q.1 z L S g M r hL hS hT hv h
end VCALL
theorem wl_app {l m : List AV} (h1 : WL l) (h2 : WL m) : WL (l ++ m) := fun v hv => (List.mem_append.mp hv).elim (h1 v) (h2 v)
theorem wl_rep : ∀ n, WL (repA (vW 3) n) := by
  intro n
  induction n with
  | zero => exact vwl_0
  | succ n ih => exact wl_k (v := vW 3) trivial ih
theorem wl_flat : ∀ {as : List AV}, WL as → WL (flatL as) := by
  intro as
  induction as with
  | nil => intro _; exact vwl_0
  | cons a as ih =>
    intro h
    show WL (Bool.rec (a :: flatL as) (a :: vW 3 :: flatL as) (isC2 a))
    cases isC2 a with
    | false => exact wl_k (wl_c h).1 (ih (wl_c h).2)
    | true => exact wl_k (wl_c h).1 (wl_k (v := vW 3) trivial (ih (wl_c h).2))
theorem vLen_ok {E : Env9} {k : Nat} {as : List AV} {f : Vw} {M : Mem} {r : VR} (hT : TS M) (hf : Vws M f) (h : vLen as f = some r) : VOK E (runM (k + 5) 338 E 466 as M) r := by
  rcases as with _ | ⟨a, as⟩
  · cases h
  rcases a with x | x | x | x | x | w | x | x
  all_goals first | (cases h; done) | skip
  cases as with
  | cons _ _ => cases h
  | nil =>
    obtain ⟨h1, h⟩ := gd_some (show gd (Nat.ble 20 w) (gd (Nat.ble w 30) (some (((0, 0), vI (nthL txWd (w - 20)).length, f) : VR))) = some r from h)
    obtain ⟨h2, h⟩ := gd_some h
    have h1 := Nat.le_of_ble_eq_true h1
    have h2 := Nat.le_of_ble_eq_true h2
    cases h
    rcases (show w = 20 ∨ w = 21 ∨ w = 22 ∨ w = 23 ∨ w = 24 ∨ w = 25 ∨ w = 26 ∨ w = 27 ∨ w = 28 ∨ w = 29 ∨ w = 30 by omega) with rfl | rfl | rfl | rfl | rfl | rfl | rfl | rfl | rfl | rfl | rfl
    · exact ⟨vI 4, [], [], M, 0, tsl_20 k E M, fun _ => ⟨rfl, by show 4 < 4294967296; decide⟩, hT, hf⟩
    · exact ⟨vI 4, [], [], M, 0, tsl_21 k E M, fun _ => ⟨rfl, by show 4 < 4294967296; decide⟩, hT, hf⟩
    · exact ⟨vI 4, [], [], M, 0, tsl_22 k E M, fun _ => ⟨rfl, by show 4 < 4294967296; decide⟩, hT, hf⟩
    · exact ⟨vI 7, [], [], M, 0, tsl_23 k E M, fun _ => ⟨rfl, by show 7 < 4294967296; decide⟩, hT, hf⟩
    · exact ⟨vI 4, [], [], M, 0, tsl_24 k E M, fun _ => ⟨rfl, by show 4 < 4294967296; decide⟩, hT, hf⟩
    · exact ⟨vI 4, [], [], M, 0, tsl_25 k E M, fun _ => ⟨rfl, by show 4 < 4294967296; decide⟩, hT, hf⟩
    · exact ⟨vI 5, [], [], M, 0, tsl_26 k E M, fun _ => ⟨rfl, by show 5 < 4294967296; decide⟩, hT, hf⟩
    · exact ⟨vI 3, [], [], M, 0, tsl_27 k E M, fun _ => ⟨rfl, by show 3 < 4294967296; decide⟩, hT, hf⟩
    · exact ⟨vI 4, [], [], M, 0, tsl_28 k E M, fun _ => ⟨rfl, by show 4 < 4294967296; decide⟩, hT, hf⟩
    · exact ⟨vI 6, [], [], M, 0, tsl_29 k E M, fun _ => ⟨rfl, by show 6 < 4294967296; decide⟩, hT, hf⟩
    · exact ⟨vI 6, [], [], M, 0, tsl_30 k E M, fun _ => ⟨rfl, by show 6 < 4294967296; decide⟩, hT, hf⟩
theorem vChr_ok {E : Env9} {k : Nat} {as : List AV} {f : Vw} {M : Mem} {r : VR} (hT : TS M) (hf : Vws M f) (h : vChr as f = some r) : VOK E (runM (k + 5) 339 E 466 as M) r := by
  rcases as with _ | ⟨a, as⟩
  · cases h
  rcases a with x | x | x | x | x | w | x | x
  all_goals first | (cases h; done) | skip
  rcases as with _ | ⟨b, as⟩
  · cases h
  rcases b with i | x | x | x | x | x | x | x
  all_goals first | (cases h; done) | skip
  cases as with
  | cons _ _ => cases h
  | nil =>
    obtain ⟨h1, h⟩ := gd_some (show gd (Nat.ble 20 w) (gd (Nat.ble w 30) (gd (Nat.ble (i + 1) (nthL txWd (w - 20)).length) (some (((0, 0), vI (nthN (nthL txWd (w - 20)) 0 i), f) : VR)))) = some r from h)
    obtain ⟨h2, h⟩ := gd_some h
    obtain ⟨h3, h⟩ := gd_some h
    have h1 := Nat.le_of_ble_eq_true h1
    have h2 := Nat.le_of_ble_eq_true h2
    have h3 := Nat.le_of_ble_eq_true h3
    cases h
    rcases (show w = 20 ∨ w = 21 ∨ w = 22 ∨ w = 23 ∨ w = 24 ∨ w = 25 ∨ w = 26 ∨ w = 27 ∨ w = 28 ∨ w = 29 ∨ w = 30 by omega) with rfl | rfl | rfl | rfl | rfl | rfl | rfl | rfl | rfl | rfl | rfl
    · have h4 : i < 4 := h3
      rcases (show i = 0 ∨ i = 1 ∨ i = 2 ∨ i = 3 by omega) with rfl | rfl | rfl | rfl
      · exact ⟨vI 112, [], [], M, 0, tsc_20_0 k E M, fun _ => ⟨rfl, by show 112 < 4294967296; decide⟩, hT, hf⟩
      · exact ⟨vI 97, [], [], M, 0, tsc_20_1 k E M, fun _ => ⟨rfl, by show 97 < 4294967296; decide⟩, hT, hf⟩
      · exact ⟨vI 115, [], [], M, 0, tsc_20_2 k E M, fun _ => ⟨rfl, by show 115 < 4294967296; decide⟩, hT, hf⟩
      · exact ⟨vI 115, [], [], M, 0, tsc_20_3 k E M, fun _ => ⟨rfl, by show 115 < 4294967296; decide⟩, hT, hf⟩
    · have h4 : i < 4 := h3
      rcases (show i = 0 ∨ i = 1 ∨ i = 2 ∨ i = 3 by omega) with rfl | rfl | rfl | rfl
      · exact ⟨vI 102, [], [], M, 0, tsc_21_0 k E M, fun _ => ⟨rfl, by show 102 < 4294967296; decide⟩, hT, hf⟩
      · exact ⟨vI 97, [], [], M, 0, tsc_21_1 k E M, fun _ => ⟨rfl, by show 97 < 4294967296; decide⟩, hT, hf⟩
      · exact ⟨vI 105, [], [], M, 0, tsc_21_2 k E M, fun _ => ⟨rfl, by show 105 < 4294967296; decide⟩, hT, hf⟩
      · exact ⟨vI 114, [], [], M, 0, tsc_21_3 k E M, fun _ => ⟨rfl, by show 114 < 4294967296; decide⟩, hT, hf⟩
    · have h4 : i < 4 := h3
      rcases (show i = 0 ∨ i = 1 ∨ i = 2 ∨ i = 3 by omega) with rfl | rfl | rfl | rfl
      · exact ⟨vI 116, [], [], M, 0, tsc_22_0 k E M, fun _ => ⟨rfl, by show 116 < 4294967296; decide⟩, hT, hf⟩
      · exact ⟨vI 101, [], [], M, 0, tsc_22_1 k E M, fun _ => ⟨rfl, by show 101 < 4294967296; decide⟩, hT, hf⟩
      · exact ⟨vI 115, [], [], M, 0, tsc_22_2 k E M, fun _ => ⟨rfl, by show 115 < 4294967296; decide⟩, hT, hf⟩
      · exact ⟨vI 116, [], [], M, 0, tsc_22_3 k E M, fun _ => ⟨rfl, by show 116 < 4294967296; decide⟩, hT, hf⟩
    · have h4 : i < 7 := h3
      rcases (show i = 0 ∨ i = 1 ∨ i = 2 ∨ i = 3 ∨ i = 4 ∨ i = 5 ∨ i = 6 by omega) with rfl | rfl | rfl | rfl | rfl | rfl | rfl
      · exact ⟨vI 100, [], [], M, 0, tsc_23_0 k E M, fun _ => ⟨rfl, by show 100 < 4294967296; decide⟩, hT, hf⟩
      · exact ⟨vI 105, [], [], M, 0, tsc_23_1 k E M, fun _ => ⟨rfl, by show 105 < 4294967296; decide⟩, hT, hf⟩
      · exact ⟨vI 115, [], [], M, 0, tsc_23_2 k E M, fun _ => ⟨rfl, by show 115 < 4294967296; decide⟩, hT, hf⟩
      · exact ⟨vI 109, [], [], M, 0, tsc_23_3 k E M, fun _ => ⟨rfl, by show 109 < 4294967296; decide⟩, hT, hf⟩
      · exact ⟨vI 105, [], [], M, 0, tsc_23_4 k E M, fun _ => ⟨rfl, by show 105 < 4294967296; decide⟩, hT, hf⟩
      · exact ⟨vI 115, [], [], M, 0, tsc_23_5 k E M, fun _ => ⟨rfl, by show 115 < 4294967296; decide⟩, hT, hf⟩
      · exact ⟨vI 115, [], [], M, 0, tsc_23_6 k E M, fun _ => ⟨rfl, by show 115 < 4294967296; decide⟩, hT, hf⟩
    · have h4 : i < 4 := h3
      rcases (show i = 0 ∨ i = 1 ∨ i = 2 ∨ i = 3 by omega) with rfl | rfl | rfl | rfl
      · exact ⟨vI 119, [], [], M, 0, tsc_24_0 k E M, fun _ => ⟨rfl, by show 119 < 4294967296; decide⟩, hT, hf⟩
      · exact ⟨vI 97, [], [], M, 0, tsc_24_1 k E M, fun _ => ⟨rfl, by show 97 < 4294967296; decide⟩, hT, hf⟩
      · exact ⟨vI 103, [], [], M, 0, tsc_24_2 k E M, fun _ => ⟨rfl, by show 103 < 4294967296; decide⟩, hT, hf⟩
      · exact ⟨vI 101, [], [], M, 0, tsc_24_3 k E M, fun _ => ⟨rfl, by show 101 < 4294967296; decide⟩, hT, hf⟩
    · have h4 : i < 4 := h3
      rcases (show i = 0 ∨ i = 1 ∨ i = 2 ∨ i = 3 by omega) with rfl | rfl | rfl | rfl
      · exact ⟨vI 102, [], [], M, 0, tsc_25_0 k E M, fun _ => ⟨rfl, by show 102 < 4294967296; decide⟩, hT, hf⟩
      · exact ⟨vI 117, [], [], M, 0, tsc_25_1 k E M, fun _ => ⟨rfl, by show 117 < 4294967296; decide⟩, hT, hf⟩
      · exact ⟨vI 110, [], [], M, 0, tsc_25_2 k E M, fun _ => ⟨rfl, by show 110 < 4294967296; decide⟩, hT, hf⟩
      · exact ⟨vI 100, [], [], M, 0, tsc_25_3 k E M, fun _ => ⟨rfl, by show 100 < 4294967296; decide⟩, hT, hf⟩
    · have h4 : i < 5 := h3
      rcases (show i = 0 ∨ i = 1 ∨ i = 2 ∨ i = 3 ∨ i = 4 by omega) with rfl | rfl | rfl | rfl | rfl
      · exact ⟨vI 116, [], [], M, 0, tsc_26_0 k E M, fun _ => ⟨rfl, by show 116 < 4294967296; decide⟩, hT, hf⟩
      · exact ⟨vI 114, [], [], M, 0, tsc_26_1 k E M, fun _ => ⟨rfl, by show 114 < 4294967296; decide⟩, hT, hf⟩
      · exact ⟨vI 97, [], [], M, 0, tsc_26_2 k E M, fun _ => ⟨rfl, by show 97 < 4294967296; decide⟩, hT, hf⟩
      · exact ⟨vI 105, [], [], M, 0, tsc_26_3 k E M, fun _ => ⟨rfl, by show 105 < 4294967296; decide⟩, hT, hf⟩
      · exact ⟨vI 110, [], [], M, 0, tsc_26_4 k E M, fun _ => ⟨rfl, by show 110 < 4294967296; decide⟩, hT, hf⟩
    · have h4 : i < 3 := h3
      rcases (show i = 0 ∨ i = 1 ∨ i = 2 by omega) with rfl | rfl | rfl
      · exact ⟨vI 102, [], [], M, 0, tsc_27_0 k E M, fun _ => ⟨rfl, by show 102 < 4294967296; decide⟩, hT, hf⟩
      · exact ⟨vI 111, [], [], M, 0, tsc_27_1 k E M, fun _ => ⟨rfl, by show 111 < 4294967296; decide⟩, hT, hf⟩
      · exact ⟨vI 103, [], [], M, 0, tsc_27_2 k E M, fun _ => ⟨rfl, by show 103 < 4294967296; decide⟩, hT, hf⟩
    · have h4 : i < 4 := h3
      rcases (show i = 0 ∨ i = 1 ∨ i = 2 ∨ i = 3 by omega) with rfl | rfl | rfl | rfl
      · exact ⟨vI 101, [], [], M, 0, tsc_28_0 k E M, fun _ => ⟨rfl, by show 101 < 4294967296; decide⟩, hT, hf⟩
      · exact ⟨vI 99, [], [], M, 0, tsc_28_1 k E M, fun _ => ⟨rfl, by show 99 < 4294967296; decide⟩, hT, hf⟩
      · exact ⟨vI 104, [], [], M, 0, tsc_28_2 k E M, fun _ => ⟨rfl, by show 104 < 4294967296; decide⟩, hT, hf⟩
      · exact ⟨vI 111, [], [], M, 0, tsc_28_3 k E M, fun _ => ⟨rfl, by show 111 < 4294967296; decide⟩, hT, hf⟩
    · have h4 : i < 6 := h3
      rcases (show i = 0 ∨ i = 1 ∨ i = 2 ∨ i = 3 ∨ i = 4 ∨ i = 5 by omega) with rfl | rfl | rfl | rfl | rfl | rfl
      · exact ⟨vI 118, [], [], M, 0, tsc_29_0 k E M, fun _ => ⟨rfl, by show 118 < 4294967296; decide⟩, hT, hf⟩
      · exact ⟨vI 97, [], [], M, 0, tsc_29_1 k E M, fun _ => ⟨rfl, by show 97 < 4294967296; decide⟩, hT, hf⟩
      · exact ⟨vI 108, [], [], M, 0, tsc_29_2 k E M, fun _ => ⟨rfl, by show 108 < 4294967296; decide⟩, hT, hf⟩
      · exact ⟨vI 108, [], [], M, 0, tsc_29_3 k E M, fun _ => ⟨rfl, by show 108 < 4294967296; decide⟩, hT, hf⟩
      · exact ⟨vI 101, [], [], M, 0, tsc_29_4 k E M, fun _ => ⟨rfl, by show 101 < 4294967296; decide⟩, hT, hf⟩
      · exact ⟨vI 121, [], [], M, 0, tsc_29_5 k E M, fun _ => ⟨rfl, by show 121 < 4294967296; decide⟩, hT, hf⟩
    · have h4 : i < 6 := h3
      rcases (show i = 0 ∨ i = 1 ∨ i = 2 ∨ i = 3 ∨ i = 4 ∨ i = 5 by omega) with rfl | rfl | rfl | rfl | rfl | rfl
      · exact ⟨vI 116, [], [], M, 0, tsc_30_0 k E M, fun _ => ⟨rfl, by show 116 < 4294967296; decide⟩, hT, hf⟩
      · exact ⟨vI 101, [], [], M, 0, tsc_30_1 k E M, fun _ => ⟨rfl, by show 101 < 4294967296; decide⟩, hT, hf⟩
      · exact ⟨vI 115, [], [], M, 0, tsc_30_2 k E M, fun _ => ⟨rfl, by show 115 < 4294967296; decide⟩, hT, hf⟩
      · exact ⟨vI 116, [], [], M, 0, tsc_30_3 k E M, fun _ => ⟨rfl, by show 116 < 4294967296; decide⟩, hT, hf⟩
      · exact ⟨vI 101, [], [], M, 0, tsc_30_4 k E M, fun _ => ⟨rfl, by show 101 < 4294967296; decide⟩, hT, hf⟩
      · exact ⟨vI 100, [], [], M, 0, tsc_30_5 k E M, fun _ => ⟨rfl, by show 100 < 4294967296; decide⟩, hT, hf⟩
theorem vM_ok {E : Env9} : ∀ D k, D + 5 ≤ k → VCk E (runM k) (vM MT0 D) := by
  intro D
  induction D with
  | zero => intro k _ y as f M r _ _ _ h; exact nomatch (show (none : Option VR) = some r from h)
  | succ D ih =>
    intro k hk y as f M r hw hT hf h
    obtain ⟨k', rfl⟩ : ∃ k', k = k' + 1 := ⟨k - 1, by omega⟩
    have h : (Bool.rec (Bool.rec (match MT0 y with | some md => gd (Nat.ble (flatL as).length md.1) (vFn (vM MT0 D) md.2.1 fuM 0 0 (iniL md.1 as) [] f) | none => none) (vChr as f) (Nat.beq y 339)) (vLen as f) (Nat.beq y 338) : Option VR) = some r := h
    cases h8 : Nat.beq y 338 with
    | true =>
      rw [h8] at h
      rw [Nat.eq_of_beq_eq_true h8]
      obtain ⟨k2, hk2⟩ : ∃ k2, k' + 1 = k2 + 5 := ⟨k' - 4, by omega⟩
      rw [hk2]
      exact vLen_ok hT hf h
    | false =>
      rw [h8] at h
      cases h9 : Nat.beq y 339 with
      | true =>
        rw [h9] at h
        rw [Nat.eq_of_beq_eq_true h9]
        obtain ⟨k2, hk2⟩ : ∃ k2, k' + 1 = k2 + 5 := ⟨k' - 4, by omega⟩
        rw [hk2]
        exact vChr_ok hT hf h
      | false =>
        rw [h9] at h
        have h : (match MT0 y with | some md => gd (Nat.ble (flatL as).length md.1) (vFn (vM MT0 D) md.2.1 fuM 0 0 (iniL md.1 as) [] f) | none => none) = some r := h
        cases hm : MT0 y with
        | none => rw [hm] at h; cases h
        | some md =>
          rw [hm] at h
          obtain ⟨h1, h2⟩ := gd_some (show gd (Nat.ble (flatL as).length md.1) (vFn (vM MT0 D) md.2.1 fuM 0 0 (iniL md.1 as) [] f) = some r from h)
          rw [fuM_is] at h2
          obtain ⟨d, ct, g1, g2⟩ := hMT9 y md hm
          rw [hR9, g2, h1]
          exact vF_ok (ih k' (by omega)) g1 1000000 1000000000000 (by decide) 0 0 _ [] f M r (wl_app (wl_flat hw) (wl_rep _)) vwl_0 hT hf h2
end
section
/-! the program's tokens on views -/
theorem vc3_1 {u w : Nat} {a b c : Option VR} (h : u < w) : vc3 u w a b c = a := by
  rw [vc3_is]
  rw [Nat.ble_eq_true_of_le (show u + 1 ≤ w from h)]
theorem vc3_2 {u w : Nat} {a b c : Option VR} (h : u = w) : vc3 u w a b c = b := by
  subst h
  rw [vc3_is]
  rw [Nat.beq_refl]
  cases h1 : Nat.ble (u + 1) u with
  | false => rfl
  | true => have := Nat.le_of_ble_eq_true h1; omega
theorem vc3_3 {u w : Nat} {a b c : Option VR} (h : w < u) : vc3 u w a b c = c := by
  rw [vc3_is]
  cases h1 : Nat.ble (u + 1) w with
  | true => have := Nat.le_of_ble_eq_true h1; omega
  | false =>
    cases h2 : Nat.beq u w with
    | false => rfl
    | true => have := Nat.eq_of_beq_eq_true h2; omega
theorem bS {x : Nat} (h : x < 2147483648) : bv x = x + 2147483648 := by rw [bv_is]; unfold bi; omega
theorem bN {x : Nat} (h1 : 2147483648 ≤ x) (h2 : x < 4294967296) : bv x = x - 2147483648 := by rw [bv_is]; unfold bi; omega
theorem vlt {x y : Nat} {a b c : Option VR} (hy : y < 2147483648) (h : x < y) : vc3 (bv x) (bv y) a b c = a := vc3_1 (by rw [bS hy, bS (show x < 2147483648 by omega)]; omega)
theorem veq {x y : Nat} {a b c : Option VR} (h : x = y) : vc3 (bv x) (bv y) a b c = b := vc3_2 (by rw [h])
theorem vgt {x y : Nat} {a b c : Option VR} (hx : x < 2147483648) (h : y < x) : vc3 (bv x) (bv y) a b c = c := vc3_3 (by rw [bS hx, bS (show y < 2147483648 by omega)]; omega)
theorem vle2 {x y : Nat} {a c : Option VR} (hy : y < 2147483648) (h : x ≤ y) : vc3 (bv x) (bv y) a a c = a := by
  rcases Nat.lt_or_ge x y with q | q
  · (first | (exact vlt hy q) | (refine (vF_g rfl rfl).trans ?_; refine (vF_g rfl rfl).trans ?_; exact vlt hy q) | (refine (vF_g rfl rfl).trans ?_; exact vlt hy q))
  · (first | (exact veq (by omega)) | (refine (vF_g rfl rfl).trans ?_; refine (vF_g rfl rfl).trans ?_; exact veq (by omega)) | (refine (vF_g rfl rfl).trans ?_; exact veq (by omega)))
theorem vge2 {x y : Nat} {a b : Option VR} (hx : x < 2147483648) (h : y ≤ x) : vc3 (bv x) (bv y) a b b = b := by
  rcases Nat.lt_or_ge y x with q | q
  · (first | (exact vgt hx q) | (refine (vF_g rfl rfl).trans ?_; refine (vF_g rfl rfl).trans ?_; exact vgt hx q) | (refine (vF_g rfl rfl).trans ?_; exact vgt hx q))
  · (first | (exact veq (by omega)) | (refine (vF_g rfl rfl).trans ?_; refine (vF_g rfl rfl).trans ?_; exact veq (by omega)) | (refine (vF_g rfl rfl).trans ?_; exact veq (by omega)))
theorem vne {x y : Nat} {a b : Option VR} (hx : x < 4294967296) (hy : y < 4294967296) (h : x ≠ y) : vc3 (bv x) (bv y) a b a = a := by
  have e : bv x ≠ bv y := by rw [bv_is, bv_is]; unfold bi; omega
  rcases Nat.lt_or_ge (bv x) (bv y) with q | q
  · exact vc3_1 q
  · exact vc3_3 (by omega)
theorem vmin {x y : Nat} {a b c : Option VR} (h1 : 2147483648 ≤ x) (h2 : x < 4294967296) (hy : y < 2147483648) : vc3 (bv x) (bv y) a b c = a := vc3_1 (by rw [bS hy, bN h1 h2]; omega)
theorem gB_0 : gB9 0 = g_sub := rfl
theorem gB_1 : gB9 1 = g_imul := rfl
theorem gB_2 : gB9 2 = g_iand := rfl
theorem gB_6 : gB9 6 = g_ishr := rfl
theorem gU_1 : gU9 1 = g_i2b := rfl
theorem gS_0 : gS9 0 = g_lshl := rfl
/-- a block of a method -/
theorem vF_s {vc : VC} {code : List DB} {n b z : Nat} {L S : List AV} {f : Vw} {q : DB} (h : yat code b = some q) : vFn vc code (n + 1) b z L S f = vB vc (vFn vc code n) q.2 q.1 z L S f := by
  rw [vFn_is]
  show (match yat code b with | some q => vB vc (vFn0 vc code n) q.2 q.1 | none => fun _ _ _ _ => none : VK) z L S f = _
  rw [h, ← vFn_is]
theorem vF_g {vc : VC} {code : List DB} {n b z : Nat} {L S : List AV} {f : Vw} {q : DB} {X : Option VR} (h1 : X = vFn vc code (n + 1) b z L S f) (h : yat code b = some q) : X = vB vc (vFn vc code n) q.2 q.1 z L S f := h1.trans (vF_s h)
/-- a method's run, from its first block on -/
theorem vM_go {D y : Nat} {as : List AV} {f : Vw} {r : Option VR} {nl : Nat} {code : List DB} {ts : List (Nat × An)} (h1 : Nat.beq y 338 = false) (h2 : Nat.beq y 339 = false) (h3 : MT0 y = some (nl, code, ts)) (h4 : Nat.ble (flatL as).length nl = true) (h : ∀ F, 999940 ≤ F → vFn (vM MT0 D) code (F + 60) 0 0 (iniL nl as) [] f = r) : vM MT0 (D + 1) y as f = r := by
  have e : vM MT0 (D + 1) y as f = (Bool.rec (Bool.rec (match MT0 y with | some md => gd (Nat.ble (flatL as).length md.1) (vFn (vM MT0 D) md.2.1 fuM 0 0 (iniL md.1 as) [] f) | none => none) (vChr as f) (Nat.beq y 339)) (vLen as f) (Nat.beq y 338) : Option VR) := rfl
  rw [e, h1, h2, h3]
  show gd (Nat.ble (flatL as).length nl) (vFn (vM MT0 D) code fuM 0 0 (iniL nl as) [] f) = r
  rw [h4, fuM_is]
  exact h 999940 (Nat.le_refl _)
theorem vM_at {D y : Nat} {as : List AV} {f : Vw} {nl : Nat} {code : List DB} {ts : List (Nat × An)} (h1 : Nat.beq y 338 = false) (h2 : Nat.beq y 339 = false) (h3 : MT0 y = some (nl, code, ts)) (h4 : Nat.ble (flatL as).length nl = true) : ∃ F, 999940 ≤ F ∧ ∀ r, vFn (vM MT0 D) code (F + 60) 0 0 (iniL nl as) [] f = r → vM MT0 (D + 1) y as f = r := by
  refine ⟨999940, Nat.le_refl _, fun r h => ?_⟩
  have e : vM MT0 (D + 1) y as f = (Bool.rec (Bool.rec (match MT0 y with | some md => gd (Nat.ble (flatL as).length md.1) (vFn (vM MT0 D) md.2.1 fuM 0 0 (iniL md.1 as) [] f) | none => none) (vChr as f) (Nat.beq y 339)) (vLen as f) (Nat.beq y 338) : Option VR) := rfl
  rw [e, h1, h2, h3]
  show gd (Nat.ble (flatL as).length nl) (vFn (vM MT0 D) code fuM 0 0 (iniL nl as) [] f) = r
  rw [h4, fuM_is]
  exact h
/-- the text's byte, or none -/
noncomputable def bt (f : Vw) (i : Nat) : Nat := if i < f 1 1 then g_iand (f 2 i) 255 else 4294967295
theorem v_byteAt {D i : Nat} {f : Vw} (hi : i < 2147483648) (hn : f 1 1 ≤ 900) : vM MT0 (D + 1) 4 [vR 1, vI i] f = some ((0, 0), vI (bt f i), f) := by
  unfold bt
  show vFn (vM MT0 D) nb_X0_byteAt fuM 0 0 [vR 1, vI i] [] f = _
  obtain ⟨F, hF⟩ := fu9
  rw [hF]
  by_cases h : i < f 1 1
  · rw [if_pos h]
    (first | (refine (vge2 hi (Nat.zero_le i)).trans ?_) | (refine (vF_g rfl rfl).trans ?_; refine (vF_g rfl rfl).trans ?_; refine (vge2 hi (Nat.zero_le i)).trans ?_) | (refine (vF_g rfl rfl).trans ?_; refine (vge2 hi (Nat.zero_le i)).trans ?_))
    (first | (refine (vlt (by omega) h).trans ?_) | (refine (vF_g rfl rfl).trans ?_; refine (vF_g rfl rfl).trans ?_; refine (vlt (by omega) h).trans ?_) | (refine (vF_g rfl rfl).trans ?_; refine (vlt (by omega) h).trans ?_))
    (first | (refine Eq.trans (b := gd (Nat.ble (i + 1) 900) (some (((0, 0), vI (g_iand (f 2 i) 255), f) : VR))) rfl ?_) | (refine (vF_g rfl rfl).trans ?_; refine (vF_g rfl rfl).trans ?_; refine Eq.trans (b := gd (Nat.ble (i + 1) 900) (some (((0, 0), vI (g_iand (f 2 i) 255), f) : VR))) rfl ?_) | (refine (vF_g rfl rfl).trans ?_; refine Eq.trans (b := gd (Nat.ble (i + 1) 900) (some (((0, 0), vI (g_iand (f 2 i) 255), f) : VR))) rfl ?_))
    rw [Nat.ble_eq_true_of_le (show i + 1 ≤ 900 by omega)]
    (first | (exact rfl) | (refine (vF_g rfl rfl).trans ?_; refine (vF_g rfl rfl).trans ?_; exact rfl) | (refine (vF_g rfl rfl).trans ?_; refine (vF_g rfl rfl).trans ?_; refine (vF_g rfl rfl).trans ?_; exact rfl) | (refine (vF_g rfl rfl).trans ?_; exact rfl))
  · rw [if_neg h]
    (first | (refine (vge2 hi (Nat.zero_le i)).trans ?_) | (refine (vF_g rfl rfl).trans ?_; refine (vF_g rfl rfl).trans ?_; refine (vge2 hi (Nat.zero_le i)).trans ?_) | (refine (vF_g rfl rfl).trans ?_; refine (vge2 hi (Nat.zero_le i)).trans ?_))
    (first | (refine (vge2 hi (by omega)).trans ?_) | (refine (vF_g rfl rfl).trans ?_; refine (vF_g rfl rfl).trans ?_; refine (vge2 hi (by omega)).trans ?_) | (refine (vF_g rfl rfl).trans ?_; refine (vge2 hi (by omega)).trans ?_))
    (first | (exact rfl) | (refine (vF_g rfl rfl).trans ?_; refine (vF_g rfl rfl).trans ?_; exact rfl) | (refine (vF_g rfl rfl).trans ?_; refine (vF_g rfl rfl).trans ?_; refine (vF_g rfl rfl).trans ?_; exact rfl) | (refine (vF_g rfl rfl).trans ?_; exact rfl))
/-- what kind of token a sign begins -/
def kd9 (x : Nat) : Nat := if 97 ≤ x ∧ x ≤ 122 then 1 else if 48 ≤ x ∧ x ≤ 57 then 2 else if x = 59 then 3 else if x = 32 then 4 else if x = 4294967295 then 0 else 5
theorem v_kindOf {D x : Nat} {f : Vw} (hx : x < 256 ∨ x = 4294967295) : vM MT0 (D + 1) 47 [vI x] f = some ((0, 0), vI (kd9 x), f) := by
  show vFn (vM MT0 D) nb_X7_kindOf fuM 0 0 [vI x] [] f = _
  obtain ⟨F, hF⟩ := fu9
  rw [hF]
  rcases hx with hx | hx
  · have hs : x < 2147483648 := by omega
    by_cases h1 : 97 ≤ x ∧ x ≤ 122
    · rw [show kd9 x = 1 from if_pos h1]
      (first | (refine (vge2 hs h1.1).trans ?_) | (refine (vF_g rfl rfl).trans ?_; refine (vF_g rfl rfl).trans ?_; refine (vge2 hs h1.1).trans ?_) | (refine (vF_g rfl rfl).trans ?_; refine (vge2 hs h1.1).trans ?_))
      (first | (refine (vle2 (by omega) h1.2).trans ?_) | (refine (vF_g rfl rfl).trans ?_; refine (vF_g rfl rfl).trans ?_; refine (vle2 (by omega) h1.2).trans ?_) | (refine (vF_g rfl rfl).trans ?_; refine (vle2 (by omega) h1.2).trans ?_))
      (first | (exact rfl) | (refine (vF_g rfl rfl).trans ?_; refine (vF_g rfl rfl).trans ?_; exact rfl) | (refine (vF_g rfl rfl).trans ?_; refine (vF_g rfl rfl).trans ?_; refine (vF_g rfl rfl).trans ?_; exact rfl) | (refine (vF_g rfl rfl).trans ?_; exact rfl))
    · have e3 : vFn (vM MT0 D) nb_X7_kindOf (F + 60) 0 0 [vI x] [] f = vFn (vM MT0 D) nb_X7_kindOf (F + 58) 3 0 [vI x] [] f ∨ vFn (vM MT0 D) nb_X7_kindOf (F + 60) 0 0 [vI x] [] f = vFn (vM MT0 D) nb_X7_kindOf (F + 59) 3 0 [vI x] [] f := by
        by_cases q : 97 ≤ x
        · exact Or.inl ((by (first | (refine (vge2 hs q).trans ?_) | (refine (vF_g rfl rfl).trans ?_; refine (vF_g rfl rfl).trans ?_; refine (vge2 hs q).trans ?_) | (refine (vF_g rfl rfl).trans ?_; refine (vge2 hs q).trans ?_)); (first | (exact (vgt hs (by omega))) | (refine (vF_g rfl rfl).trans ?_; refine (vF_g rfl rfl).trans ?_; exact (vgt hs (by omega))) | (refine (vF_g rfl rfl).trans ?_; exact (vgt hs (by omega))))))
        · refine Or.inr ?_
          (first | (exact vlt (x := x) (y := 97) (by omega) (by omega)) | (refine (vF_g rfl rfl).trans ?_; refine (vF_g rfl rfl).trans ?_; exact vlt (x := x) (y := 97) (by omega) (by omega)) | (refine (vF_g rfl rfl).trans ?_; exact vlt (x := x) (y := 97) (by omega) (by omega)))
      have key : ∀ n, vFn (vM MT0 D) nb_X7_kindOf (n + 9) 3 0 [vI x] [] f = some ((0, 0), vI (kd9 x), f) := by
        intro n
        unfold kd9
        rw [if_neg h1]
        by_cases h2 : 48 ≤ x ∧ x ≤ 57
        · rw [if_pos h2]
          (first | (refine (vge2 hs h2.1).trans ?_) | (refine (vF_g rfl rfl).trans ?_; refine (vF_g rfl rfl).trans ?_; refine (vge2 hs h2.1).trans ?_) | (refine (vF_g rfl rfl).trans ?_; refine (vge2 hs h2.1).trans ?_))
          (first | (refine (vle2 (by omega) h2.2).trans ?_) | (refine (vF_g rfl rfl).trans ?_; refine (vF_g rfl rfl).trans ?_; refine (vle2 (by omega) h2.2).trans ?_) | (refine (vF_g rfl rfl).trans ?_; refine (vle2 (by omega) h2.2).trans ?_))
          (first | (exact rfl) | (refine (vF_g rfl rfl).trans ?_; refine (vF_g rfl rfl).trans ?_; exact rfl) | (refine (vF_g rfl rfl).trans ?_; refine (vF_g rfl rfl).trans ?_; refine (vF_g rfl rfl).trans ?_; exact rfl) | (refine (vF_g rfl rfl).trans ?_; exact rfl))
        · rw [if_neg h2]
          have key2 : ∀ n, vFn (vM MT0 D) nb_X7_kindOf (n + 6) 6 0 [vI x] [] f = some ((0, 0), vI (if x = 59 then 3 else if x = 32 then 4 else if x = 4294967295 then 0 else 5), f) := by
            intro n
            by_cases h3 : x = 59
            · rw [if_pos h3]
              (first | (refine (veq h3).trans ?_) | (refine (vF_g rfl rfl).trans ?_; refine (vF_g rfl rfl).trans ?_; refine (veq h3).trans ?_) | (refine (vF_g rfl rfl).trans ?_; refine (veq h3).trans ?_))
              (first | (exact rfl) | (refine (vF_g rfl rfl).trans ?_; refine (vF_g rfl rfl).trans ?_; exact rfl) | (refine (vF_g rfl rfl).trans ?_; refine (vF_g rfl rfl).trans ?_; refine (vF_g rfl rfl).trans ?_; exact rfl) | (refine (vF_g rfl rfl).trans ?_; exact rfl))
            · rw [if_neg h3]
              by_cases h4 : x = 32
              · rw [if_pos h4]
                (first | (refine (vne (by omega) (by omega) h3).trans ?_) | (refine (vF_g rfl rfl).trans ?_; refine (vF_g rfl rfl).trans ?_; refine (vne (by omega) (by omega) h3).trans ?_) | (refine (vF_g rfl rfl).trans ?_; refine (vne (by omega) (by omega) h3).trans ?_))
                (first | (refine (veq h4).trans ?_) | (refine (vF_g rfl rfl).trans ?_; refine (vF_g rfl rfl).trans ?_; refine (veq h4).trans ?_) | (refine (vF_g rfl rfl).trans ?_; refine (veq h4).trans ?_))
                (first | (exact rfl) | (refine (vF_g rfl rfl).trans ?_; refine (vF_g rfl rfl).trans ?_; exact rfl) | (refine (vF_g rfl rfl).trans ?_; refine (vF_g rfl rfl).trans ?_; refine (vF_g rfl rfl).trans ?_; exact rfl) | (refine (vF_g rfl rfl).trans ?_; exact rfl))
              · rw [if_neg h4, if_neg (show x ≠ 4294967295 by omega)]
                (first | (refine (vne (by omega) (by omega) h3).trans ?_) | (refine (vF_g rfl rfl).trans ?_; refine (vF_g rfl rfl).trans ?_; refine (vne (by omega) (by omega) h3).trans ?_) | (refine (vF_g rfl rfl).trans ?_; refine (vne (by omega) (by omega) h3).trans ?_))
                (first | (refine (vne (by omega) (by omega) h4).trans ?_) | (refine (vF_g rfl rfl).trans ?_; refine (vF_g rfl rfl).trans ?_; refine (vne (by omega) (by omega) h4).trans ?_) | (refine (vF_g rfl rfl).trans ?_; refine (vne (by omega) (by omega) h4).trans ?_))
                (first | (refine (vne (by omega) (by omega) (show x ≠ 4294967295 by omega)).trans ?_) | (refine (vF_g rfl rfl).trans ?_; refine (vF_g rfl rfl).trans ?_; refine (vne (by omega) (by omega) (show x ≠ 4294967295 by omega)).trans ?_) | (refine (vF_g rfl rfl).trans ?_; refine (vne (by omega) (by omega) (show x ≠ 4294967295 by omega)).trans ?_))
                (first | (exact rfl) | (refine (vF_g rfl rfl).trans ?_; refine (vF_g rfl rfl).trans ?_; exact rfl) | (refine (vF_g rfl rfl).trans ?_; refine (vF_g rfl rfl).trans ?_; refine (vF_g rfl rfl).trans ?_; exact rfl) | (refine (vF_g rfl rfl).trans ?_; exact rfl))
          by_cases q : 48 ≤ x
          · (first | (refine (vge2 hs q).trans ?_) | (refine (vF_g rfl rfl).trans ?_; refine (vF_g rfl rfl).trans ?_; refine (vge2 hs q).trans ?_) | (refine (vF_g rfl rfl).trans ?_; refine (vge2 hs q).trans ?_))
            (first | (refine (vgt hs (by omega)).trans ?_) | (refine (vF_g rfl rfl).trans ?_; refine (vF_g rfl rfl).trans ?_; refine (vgt hs (by omega)).trans ?_) | (refine (vF_g rfl rfl).trans ?_; refine (vgt hs (by omega)).trans ?_))
            (first | (exact (key2 (n + 1))) | (refine (vF_g rfl rfl).trans ?_; refine (vF_g rfl rfl).trans ?_; exact (key2 (n + 1))) | (refine (vF_g rfl rfl).trans ?_; exact (key2 (n + 1))))
          · (first | (refine (vlt (by omega) (by omega)).trans ?_) | (refine (vF_g rfl rfl).trans ?_; refine (vF_g rfl rfl).trans ?_; refine (vlt (by omega) (by omega)).trans ?_) | (refine (vF_g rfl rfl).trans ?_; refine (vlt (by omega) (by omega)).trans ?_))
            (first | (exact (key2 (n + 2))) | (refine (vF_g rfl rfl).trans ?_; refine (vF_g rfl rfl).trans ?_; exact (key2 (n + 2))) | (refine (vF_g rfl rfl).trans ?_; exact (key2 (n + 2))))
      rcases e3 with e | e
      · rw [e]; exact key (F + 49)
      · rw [e]; exact key (F + 50)
  · subst hx
    (first | (refine (vmin (by omega) (by omega) (by omega)).trans ?_) | (refine (vF_g rfl rfl).trans ?_; refine (vF_g rfl rfl).trans ?_; refine (vmin (by omega) (by omega) (by omega)).trans ?_) | (refine (vF_g rfl rfl).trans ?_; refine (vmin (by omega) (by omega) (by omega)).trans ?_))
    (first | (refine (vmin (by omega) (by omega) (by omega)).trans ?_) | (refine (vF_g rfl rfl).trans ?_; refine (vF_g rfl rfl).trans ?_; refine (vmin (by omega) (by omega) (by omega)).trans ?_) | (refine (vF_g rfl rfl).trans ?_; refine (vmin (by omega) (by omega) (by omega)).trans ?_))
    (first | (refine (vmin (by omega) (by omega) (by omega)).trans ?_) | (refine (vF_g rfl rfl).trans ?_; refine (vF_g rfl rfl).trans ?_; refine (vmin (by omega) (by omega) (by omega)).trans ?_) | (refine (vF_g rfl rfl).trans ?_; refine (vmin (by omega) (by omega) (by omega)).trans ?_))
    (first | (refine (vmin (by omega) (by omega) (by omega)).trans ?_) | (refine (vF_g rfl rfl).trans ?_; refine (vF_g rfl rfl).trans ?_; refine (vmin (by omega) (by omega) (by omega)).trans ?_) | (refine (vF_g rfl rfl).trans ?_; refine (vmin (by omega) (by omega) (by omega)).trans ?_))
    (first | (refine (veq rfl).trans ?_) | (refine (vF_g rfl rfl).trans ?_; refine (vF_g rfl rfl).trans ?_; refine (veq rfl).trans ?_) | (refine (vF_g rfl rfl).trans ?_; refine (veq rfl).trans ?_))
    (first | (exact rfl) | (refine (vF_g rfl rfl).trans ?_; refine (vF_g rfl rfl).trans ?_; exact rfl) | (refine (vF_g rfl rfl).trans ?_; refine (vF_g rfl rfl).trans ?_; refine (vF_g rfl rfl).trans ?_; exact rfl) | (refine (vF_g rfl rfl).trans ?_; exact rfl))
theorem v_fail {D c : Nat} {f : Vw} : vM MT0 (D + 1) 46 [vR 446, vI c] f = some ((0, 0), vI 0, vup (vup f 446 6 c) 446 7 (vup f 446 6 c 446 3)) := by
  show vFn (vM MT0 D) nb_X7_fail fuM 0 0 [vR 446, vI c] [] f = _
  obtain ⟨F, hF⟩ := fu9
  rw [hF]
  exact (by (first | (exact rfl) | (refine (vF_g rfl rfl).trans ?_; refine (vF_g rfl rfl).trans ?_; exact rfl) | (refine (vF_g rfl rfl).trans ?_; refine (vF_g rfl rfl).trans ?_; refine (vF_g rfl rfl).trans ?_; exact rfl) | (refine (vF_g rfl rfl).trans ?_; exact rfl)))
end
section
/-! the program's next token -/
theorem vup_eq {f : Vw} {k i x : Nat} : vup f k i x k i = x := if_pos ⟨rfl, rfl⟩
theorem vup_ne {f : Vw} {k i x k' i' : Nat} (h : k' ≠ k ∨ i' ≠ i) : vup f k i x k' i' = f k' i' := if_neg (fun q => h.elim (fun w => w q.1) (fun w => w q.2))
theorem vup_id {f : Vw} {k i x : Nat} (h : f k i = x) : vup f k i x = f := by
  funext k' i'
  by_cases q : k' = k ∧ i' = i
  · rw [q.1, q.2, vup_eq, h]
  · exact if_neg q
theorem vup_vup {f : Vw} {k i x y : Nat} : vup (vup f k i x) k i y = vup f k i y := by
  funext k' i'
  by_cases q : k' = k ∧ i' = i
  · rw [q.1, q.2, vup_eq, vup_eq]
  · show (if k' = k ∧ i' = i then y else if k' = k ∧ i' = i then x else f k' i') = if k' = k ∧ i' = i then y else f k' i'
    rw [if_neg q, if_neg q, if_neg q]
theorem vup_sw {f : Vw} {k i x k' i' y : Nat} (h : k ≠ k' ∨ i ≠ i') : vup (vup f k i x) k' i' y = vup (vup f k' i' y) k i x := by
  funext a b
  by_cases q : a = k ∧ b = i
  · rw [q.1, q.2, vup_ne h, vup_eq, vup_eq]
  · by_cases q2 : a = k' ∧ b = i'
    · rw [q2.1, q2.2, vup_eq, vup_ne (h.imp (fun w e => w e.symm) (fun w e => w e.symm)), vup_eq]
    · show (if a = k' ∧ b = i' then y else if a = k ∧ b = i then x else f a b) = if a = k ∧ b = i then x else if a = k' ∧ b = i' then y else f a b
      rw [if_neg q2, if_neg q, if_neg q, if_neg q2]
theorem bt_up {f : Vw} {j x i : Nat} : bt (vup f 446 j x) i = bt f i := by
  unfold bt
  rw [vup_ne (Or.inl (by decide)), vup_ne (Or.inl (by decide))]
theorem bt_in {f : Vw} {i : Nat} (h : i < f 1 1) : bt f i < 256 := by
  unfold bt
  rw [if_pos h]
  have h1 := iand_le (a := f 2 i % 4294967296) (b := 255) (Nat.mod_lt _ (by decide)) (by decide) (by rw [sg_eq (by decide)]; decide)
  have e : g_iand (f 2 i) 255 = g_iand (f 2 i % 4294967296) 255 := by
    unfold g_iand
    rw [nI_mod]
  rw [e]
  have h2 : g_iand (f 2 i % 4294967296) 255 < 4294967296 := toN_lt _
  have h3 := h1.2
  rw [sg_eq (x := 255) (by decide)] at h3
  have h4 := sg_small h2 (n := 255) (by decide) h1.1 h3
  exact Nat.lt_succ_of_le h4
theorem bt_lt (f : Vw) (i : Nat) : bt f i < 256 ∨ bt f i = 4294967295 := by
  by_cases h : i < f 1 1
  · exact Or.inl (bt_in h)
  · exact Or.inr (if_neg h)
theorem bt_l32 (f : Vw) (i : Nat) : bt f i < 4294967296 := by
  rcases bt_lt f i with h | h <;> omega
/-- past the spaces; past the signs of one kind -/
def sk (T : Nat → Nat) : Nat → Nat → Nat
  | 0, p => p
  | m + 1, p => if T p = 32 then sk T m (p + 1) else p
def rn (T : Nat → Nat) (k : Nat) : Nat → Nat → Nat
  | 0, p => p
  | m + 1, p => if kd9 (T p) = k then rn T k m (p + 1) else p
/-- a number's value -/
noncomputable def vstep (v x : Nat) : Nat := g_sub ((g_imul v 10 + x) % 4294967296) 48
noncomputable def vfold (T : Nat → Nat) (k : Nat) : Nat → Nat → Nat → Nat
  | 0, _, v => v
  | m + 1, p, v => if kd9 (T p) = k then vfold T k m (p + 1) (vstep v (T p)) else v
theorem nx_skip {D n : Nat} {T : Nat → Nat} (hn : n ≤ 900) (hT0 : ∀ i, n ≤ i → T i = 4294967295) : ∀ (m p c F : Nat) (g : Vw), c + 3 * m + 2 ≤ F → g 446 1 = p → g 1 1 = n → (∀ i, bt g i = T i) → p ≤ n → n - p ≤ m → ∃ c', c ≤ c' ∧ vFn (vM MT0 (D + 1)) nb_X7_next F 0 0 [vR 446, vW 3] [] g = vFn (vM MT0 (D + 1)) nb_X7_next c' 3 0 [vR 446, vW 3] [] (vup g 446 1 (sk T m p)) := by
  intro m
  induction m with
  | zero =>
    intro p c F g hF h1 h2 h3 h4 h5
    obtain ⟨F1, rfl⟩ : ∃ F1, F = F1 + 1 := ⟨F - 1, by omega⟩
    refine ⟨F1, by omega, ?_⟩
    rw [show sk T 0 p = p from rfl, vup_id h1]
    (first | (exact vge2 (x := g 446 1) (y := g 1 1) (by omega) (by omega)) | (refine (vF_g rfl rfl).trans ?_; refine (vF_g rfl rfl).trans ?_; exact vge2 (x := g 446 1) (y := g 1 1) (by omega) (by omega)) | (refine (vF_g rfl rfl).trans ?_; exact vge2 (x := g 446 1) (y := g 1 1) (by omega) (by omega)))
  | succ m ih =>
    intro p c F g hF h1 h2 h3 h4 h5
    obtain ⟨F1, rfl⟩ : ∃ F1, F = F1 + 3 := ⟨F - 3, by omega⟩
    by_cases q : p < n
    · by_cases q2 : T p = 32
      · obtain ⟨c', k1, k2⟩ := ih (p + 1) c F1 (vup g 446 1 (p + 1)) (by omega) vup_eq (by rw [vup_ne (Or.inl (by decide))]; exact h2) (fun i => by rw [bt_up]; exact h3 i) (by omega) (by omega)
        refine ⟨c', k1, ?_⟩
        rw [show sk T (m + 1) p = sk T m (p + 1) from if_pos q2]
        (first | (refine (vlt (x := g 446 1) (y := g 1 1) (by omega) (by omega)).trans ?_) | (refine (vF_g rfl rfl).trans ?_; refine (vF_g rfl rfl).trans ?_; refine (vlt (x := g 446 1) (y := g 1 1) (by omega) (by omega)).trans ?_) | (refine (vF_g rfl rfl).trans ?_; refine (vlt (x := g 446 1) (y := g 1 1) (by omega) (by omega)).trans ?_))
        (first | (refine (vbnd_0 (v_byteAt (i := g 446 1) (f := g) (by omega) (by omega))).trans ?_) | (refine (vF_g rfl rfl).trans ?_; refine (vF_g rfl rfl).trans ?_; refine (vbnd_0 (v_byteAt (i := g 446 1) (f := g) (by omega) (by omega))).trans ?_) | (refine (vF_g rfl rfl).trans ?_; refine (vbnd_0 (v_byteAt (i := g 446 1) (f := g) (by omega) (by omega))).trans ?_))
        (first | (refine (veq (x := bt g (g 446 1)) (y := 32) (by rw [h1, h3]; exact q2)).trans ?_) | (refine (vF_g rfl rfl).trans ?_; refine (vF_g rfl rfl).trans ?_; refine (veq (x := bt g (g 446 1)) (y := 32) (by rw [h1, h3]; exact q2)).trans ?_) | (refine (vF_g rfl rfl).trans ?_; refine (veq (x := bt g (g 446 1)) (y := 32) (by rw [h1, h3]; exact q2)).trans ?_))
        (first | (refine Eq.trans (b := vFn (vM MT0 (D + 1)) nb_X7_next F1 0 0 [vR 446, vW 3] [] (vup g 446 1 ((g 446 1 + 1) % 4294967296))) rfl ?_) | (refine (vF_g rfl rfl).trans ?_; refine (vF_g rfl rfl).trans ?_; refine Eq.trans (b := vFn (vM MT0 (D + 1)) nb_X7_next F1 0 0 [vR 446, vW 3] [] (vup g 446 1 ((g 446 1 + 1) % 4294967296))) rfl ?_) | (refine (vF_g rfl rfl).trans ?_; refine Eq.trans (b := vFn (vM MT0 (D + 1)) nb_X7_next F1 0 0 [vR 446, vW 3] [] (vup g 446 1 ((g 446 1 + 1) % 4294967296))) rfl ?_))
        rw [h1, Nat.mod_eq_of_lt (show p + 1 < 4294967296 by omega), k2, vup_vup]
      · refine ⟨F1 + 1, by omega, ?_⟩
        rw [show sk T (m + 1) p = p from if_neg q2, vup_id h1]
        (first | (refine (vlt (x := g 446 1) (y := g 1 1) (by omega) (by omega)).trans ?_) | (refine (vF_g rfl rfl).trans ?_; refine (vF_g rfl rfl).trans ?_; refine (vlt (x := g 446 1) (y := g 1 1) (by omega) (by omega)).trans ?_) | (refine (vF_g rfl rfl).trans ?_; refine (vlt (x := g 446 1) (y := g 1 1) (by omega) (by omega)).trans ?_))
        (first | (refine (vbnd_0 (v_byteAt (i := g 446 1) (f := g) (by omega) (by omega))).trans ?_) | (refine (vF_g rfl rfl).trans ?_; refine (vF_g rfl rfl).trans ?_; refine (vbnd_0 (v_byteAt (i := g 446 1) (f := g) (by omega) (by omega))).trans ?_) | (refine (vF_g rfl rfl).trans ?_; refine (vbnd_0 (v_byteAt (i := g 446 1) (f := g) (by omega) (by omega))).trans ?_))
        (first | (exact (vne (x := bt g (g 446 1)) (y := 32) (bt_l32 _ _) (by decide) (by rw [h1, h3]; exact q2))) | (refine (vF_g rfl rfl).trans ?_; refine (vF_g rfl rfl).trans ?_; exact (vne (x := bt g (g 446 1)) (y := 32) (bt_l32 _ _) (by decide) (by rw [h1, h3]; exact q2))) | (refine (vF_g rfl rfl).trans ?_; exact (vne (x := bt g (g 446 1)) (y := 32) (bt_l32 _ _) (by decide) (by rw [h1, h3]; exact q2))))
    · refine ⟨F1 + 2, by omega, ?_⟩
      rw [show sk T (m + 1) p = p from if_neg (by rw [hT0 p (by omega)]; decide), vup_id h1]
      (first | (exact vge2 (x := g 446 1) (y := g 1 1) (by omega) (by omega)) | (refine (vF_g rfl rfl).trans ?_; refine (vF_g rfl rfl).trans ?_; exact vge2 (x := g 446 1) (y := g 1 1) (by omega) (by omega)) | (refine (vF_g rfl rfl).trans ?_; exact vge2 (x := g 446 1) (y := g 1 1) (by omega) (by omega)))
/-- one sign more of a token -/
theorem nx_r1 {D n p k F : Nat} {T : Nat → Nat} {g : Vw} (hn : n ≤ 900) (h1 : g 446 1 = p) (h2 : g 1 1 = n) (h3 : ∀ i, bt g i = T i) (hk : g 446 2 = k) (hp : p < n) : vFn (vM MT0 (D + 1)) nb_X7_next (F + 7) 7 0 [vR 446, vI 1] [] g = vc3 (bv k) (bv 1) (vFn (vM MT0 (D + 1)) nb_X7_next (F + 4) 10 0 [vR 446, vI 1] [] (vup (vup g 446 5 (vstep (g 446 5) (T p))) 446 1 (p + 1))) (vFn (vM MT0 (D + 1)) nb_X7_next (F + 4) 11 0 [vR 446, vI 1] [] (vup (vup g 446 5 (vstep (g 446 5) (T p))) 446 1 (p + 1))) (vFn (vM MT0 (D + 1)) nb_X7_next (F + 4) 10 0 [vR 446, vI 1] [] (vup (vup g 446 5 (vstep (g 446 5) (T p))) 446 1 (p + 1))) := by
  (first | (refine (vlt (x := g 446 1) (y := g 1 1) (by omega) (by omega)).trans ?_) | (refine (vF_g rfl rfl).trans ?_; refine (vF_g rfl rfl).trans ?_; refine (vlt (x := g 446 1) (y := g 1 1) (by omega) (by omega)).trans ?_) | (refine (vF_g rfl rfl).trans ?_; refine (vlt (x := g 446 1) (y := g 1 1) (by omega) (by omega)).trans ?_))
  (first | (refine (vgt (x := 1) (y := 0) (by decide) (by decide)).trans ?_) | (refine (vF_g rfl rfl).trans ?_; refine (vF_g rfl rfl).trans ?_; refine (vgt (x := 1) (y := 0) (by decide) (by decide)).trans ?_) | (refine (vF_g rfl rfl).trans ?_; refine (vgt (x := 1) (y := 0) (by decide) (by decide)).trans ?_))
  (first | (refine (vbnd_0 (v_byteAt (i := g 446 1) (f := g) (by omega) (by omega))).trans ?_) | (refine (vF_g rfl rfl).trans ?_; refine (vF_g rfl rfl).trans ?_; refine (vbnd_0 (v_byteAt (i := g 446 1) (f := g) (by omega) (by omega))).trans ?_) | (refine (vF_g rfl rfl).trans ?_; refine (vbnd_0 (v_byteAt (i := g 446 1) (f := g) (by omega) (by omega))).trans ?_))
  have e5 : bt g (g 446 1) = T p := by rw [h1, h3]
  rw [e5]
  have hG : vup (vup g 446 5 (vstep (g 446 5) (T p))) 446 1 ((vup g 446 5 (vstep (g 446 5) (T p)) 446 1 + 1) % 4294967296) = vup (vup g 446 5 (vstep (g 446 5) (T p))) 446 1 (p + 1) := by rw [vup_ne (f := g) (Or.inr (by decide)), h1, Nat.mod_eq_of_lt (show p + 1 < 4294967296 by omega)]
  have hq : vup (vup g 446 5 (vstep (g 446 5) (T p))) 446 1 (p + 1) 446 2 = k := by rw [vup_ne (Or.inr (by decide)), vup_ne (Or.inr (by decide))]; exact hk
  (first | (refine Eq.trans (b := vc3 (bv (vup (vup g 446 5 (gB9 0 ((gB9 1 (g 446 5) 10 + T p) % 4294967296) 48)) 446 1 ((vup g 446 5 (gB9 0 ((gB9 1 (g 446 5) 10 + T p) % 4294967296) 48) 446 1 + 1) % 4294967296) 446 2)) (bv 1) (vFn (vM MT0 (D + 1)) nb_X7_next (F + 4) 10 0 [vR 446, vI 1] [] (vup (vup g 446 5 (gB9 0 ((gB9 1 (g 446 5) 10 + T p) % 4294967296) 48)) 446 1 ((vup g 446 5 (gB9 0 ((gB9 1 (g 446 5) 10 + T p) % 4294967296) 48) 446 1 + 1) % 4294967296))) (vFn (vM MT0 (D + 1)) nb_X7_next (F + 4) 11 0 [vR 446, vI 1] [] (vup (vup g 446 5 (gB9 0 ((gB9 1 (g 446 5) 10 + T p) % 4294967296) 48)) 446 1 ((vup g 446 5 (gB9 0 ((gB9 1 (g 446 5) 10 + T p) % 4294967296) 48) 446 1 + 1) % 4294967296))) (vFn (vM MT0 (D + 1)) nb_X7_next (F + 4) 10 0 [vR 446, vI 1] [] (vup (vup g 446 5 (gB9 0 ((gB9 1 (g 446 5) 10 + T p) % 4294967296) 48)) 446 1 ((vup g 446 5 (gB9 0 ((gB9 1 (g 446 5) 10 + T p) % 4294967296) 48) 446 1 + 1) % 4294967296)))) rfl ?_) | (refine (vF_g rfl rfl).trans ?_; refine (vF_g rfl rfl).trans ?_; refine Eq.trans (b := vc3 (bv (vup (vup g 446 5 (gB9 0 ((gB9 1 (g 446 5) 10 + T p) % 4294967296) 48)) 446 1 ((vup g 446 5 (gB9 0 ((gB9 1 (g 446 5) 10 + T p) % 4294967296) 48) 446 1 + 1) % 4294967296) 446 2)) (bv 1) (vFn (vM MT0 (D + 1)) nb_X7_next (F + 4) 10 0 [vR 446, vI 1] [] (vup (vup g 446 5 (gB9 0 ((gB9 1 (g 446 5) 10 + T p) % 4294967296) 48)) 446 1 ((vup g 446 5 (gB9 0 ((gB9 1 (g 446 5) 10 + T p) % 4294967296) 48) 446 1 + 1) % 4294967296))) (vFn (vM MT0 (D + 1)) nb_X7_next (F + 4) 11 0 [vR 446, vI 1] [] (vup (vup g 446 5 (gB9 0 ((gB9 1 (g 446 5) 10 + T p) % 4294967296) 48)) 446 1 ((vup g 446 5 (gB9 0 ((gB9 1 (g 446 5) 10 + T p) % 4294967296) 48) 446 1 + 1) % 4294967296))) (vFn (vM MT0 (D + 1)) nb_X7_next (F + 4) 10 0 [vR 446, vI 1] [] (vup (vup g 446 5 (gB9 0 ((gB9 1 (g 446 5) 10 + T p) % 4294967296) 48)) 446 1 ((vup g 446 5 (gB9 0 ((gB9 1 (g 446 5) 10 + T p) % 4294967296) 48) 446 1 + 1) % 4294967296)))) rfl ?_) | (refine (vF_g rfl rfl).trans ?_; refine Eq.trans (b := vc3 (bv (vup (vup g 446 5 (gB9 0 ((gB9 1 (g 446 5) 10 + T p) % 4294967296) 48)) 446 1 ((vup g 446 5 (gB9 0 ((gB9 1 (g 446 5) 10 + T p) % 4294967296) 48) 446 1 + 1) % 4294967296) 446 2)) (bv 1) (vFn (vM MT0 (D + 1)) nb_X7_next (F + 4) 10 0 [vR 446, vI 1] [] (vup (vup g 446 5 (gB9 0 ((gB9 1 (g 446 5) 10 + T p) % 4294967296) 48)) 446 1 ((vup g 446 5 (gB9 0 ((gB9 1 (g 446 5) 10 + T p) % 4294967296) 48) 446 1 + 1) % 4294967296))) (vFn (vM MT0 (D + 1)) nb_X7_next (F + 4) 11 0 [vR 446, vI 1] [] (vup (vup g 446 5 (gB9 0 ((gB9 1 (g 446 5) 10 + T p) % 4294967296) 48)) 446 1 ((vup g 446 5 (gB9 0 ((gB9 1 (g 446 5) 10 + T p) % 4294967296) 48) 446 1 + 1) % 4294967296))) (vFn (vM MT0 (D + 1)) nb_X7_next (F + 4) 10 0 [vR 446, vI 1] [] (vup (vup g 446 5 (gB9 0 ((gB9 1 (g 446 5) 10 + T p) % 4294967296) 48)) 446 1 ((vup g 446 5 (gB9 0 ((gB9 1 (g 446 5) 10 + T p) % 4294967296) 48) 446 1 + 1) % 4294967296)))) rfl ?_))
  rw [gB_0, gB_1, show g_sub ((g_imul (g 446 5) 10 + T p) % 4294967296) 48 = vstep (g 446 5) (T p) from rfl, hG, hq]
theorem nx_r11 {D n p k F : Nat} {T : Nat → Nat} {G : Vw} (hn : n ≤ 900) (hp : p < n) (hk9 : k < 4294967296) (G1 : G 446 1 = p + 1) (G2 : G 1 1 = n) (G3 : ∀ i, bt G i = T i) (Gk : G 446 2 = k) : vFn (vM MT0 (D + 1)) nb_X7_next (F + 3) 11 0 [vR 446, vI 1] [] G = vFn (vM MT0 (D + 1)) nb_X7_next F 7 0 [vR 446, vI (if kd9 (T (p + 1)) = k then 1 else 0)] [] G := by
  have hkd : kd9 (T (p + 1)) < 4294967296 := by
    unfold kd9
    split
    · decide
    · split
      · decide
      · split
        · decide
        · split
          · decide
          · split <;> decide
  (first | (refine (vbnd_0 (v_byteAt (i := G 446 1) (f := G) (by omega) (by omega))).trans ?_) | (refine (vF_g rfl rfl).trans ?_; refine (vF_g rfl rfl).trans ?_; refine (vbnd_0 (v_byteAt (i := G 446 1) (f := G) (by omega) (by omega))).trans ?_) | (refine (vF_g rfl rfl).trans ?_; refine (vbnd_0 (v_byteAt (i := G 446 1) (f := G) (by omega) (by omega))).trans ?_))
  (first | (refine (vbnd_0 (v_kindOf (x := bt G (G 446 1)) (f := G) (bt_lt _ _))).trans ?_) | (refine (vF_g rfl rfl).trans ?_; refine (vF_g rfl rfl).trans ?_; refine (vbnd_0 (v_kindOf (x := bt G (G 446 1)) (f := G) (bt_lt _ _))).trans ?_) | (refine (vF_g rfl rfl).trans ?_; refine (vbnd_0 (v_kindOf (x := bt G (G 446 1)) (f := G) (bt_lt _ _))).trans ?_))
  have e : bt G (G 446 1) = T (p + 1) := by rw [G1, G3]
  rw [e]
  by_cases q : kd9 (T (p + 1)) = k
  · rw [if_pos q]
    (first | (refine (veq (x := kd9 (T (p + 1))) (y := G 446 2) (by rw [Gk]; exact q)).trans ?_) | (refine (vF_g rfl rfl).trans ?_; refine (vF_g rfl rfl).trans ?_; refine (veq (x := kd9 (T (p + 1))) (y := G 446 2) (by rw [Gk]; exact q)).trans ?_) | (refine (vF_g rfl rfl).trans ?_; refine (veq (x := kd9 (T (p + 1))) (y := G 446 2) (by rw [Gk]; exact q)).trans ?_))
    (first | (exact rfl) | (refine (vF_g rfl rfl).trans ?_; refine (vF_g rfl rfl).trans ?_; exact rfl) | (refine (vF_g rfl rfl).trans ?_; refine (vF_g rfl rfl).trans ?_; refine (vF_g rfl rfl).trans ?_; exact rfl) | (refine (vF_g rfl rfl).trans ?_; exact rfl))
  · rw [if_neg q]
    (first | (refine (vne (x := kd9 (T (p + 1))) (y := G 446 2) hkd (by rw [Gk]; exact hk9) (by rw [Gk]; exact q)).trans ?_) | (refine (vF_g rfl rfl).trans ?_; refine (vF_g rfl rfl).trans ?_; refine (vne (x := kd9 (T (p + 1))) (y := G 446 2) hkd (by rw [Gk]; exact hk9) (by rw [Gk]; exact q)).trans ?_) | (refine (vF_g rfl rfl).trans ?_; refine (vne (x := kd9 (T (p + 1))) (y := G 446 2) hkd (by rw [Gk]; exact hk9) (by rw [Gk]; exact q)).trans ?_))
    (first | (exact rfl) | (refine (vF_g rfl rfl).trans ?_; refine (vF_g rfl rfl).trans ?_; exact rfl) | (refine (vF_g rfl rfl).trans ?_; refine (vF_g rfl rfl).trans ?_; refine (vF_g rfl rfl).trans ?_; exact rfl) | (refine (vF_g rfl rfl).trans ?_; exact rfl))
theorem nx_r13 {D F : Nat} {G : Vw} : vFn (vM MT0 (D + 1)) nb_X7_next (F + 2) 13 0 [vR 446, vI 1] [] G = vFn (vM MT0 (D + 1)) nb_X7_next F 7 0 [vR 446, vI 0] [] G := (by (first | (exact rfl) | (refine (vF_g rfl rfl).trans ?_; refine (vF_g rfl rfl).trans ?_; exact rfl) | (refine (vF_g rfl rfl).trans ?_; refine (vF_g rfl rfl).trans ?_; refine (vF_g rfl rfl).trans ?_; exact rfl) | (refine (vF_g rfl rfl).trans ?_; exact rfl)))
theorem nx_r10 {D F k : Nat} {G : Vw} (Gk : G 446 2 = k) (hk9 : k < 4294967296) (r : Option VR) : (k = 2 → vFn (vM MT0 (D + 1)) nb_X7_next F 11 0 [vR 446, vI 1] [] G = r → vFn (vM MT0 (D + 1)) nb_X7_next (F + 1) 10 0 [vR 446, vI 1] [] G = r) ∧ (k ≠ 2 → vFn (vM MT0 (D + 1)) nb_X7_next F 13 0 [vR 446, vI 1] [] G = r → vFn (vM MT0 (D + 1)) nb_X7_next (F + 1) 10 0 [vR 446, vI 1] [] G = r) :=
  ⟨fun h hr => (by (first | (refine (veq (x := G 446 2) (y := 2) (by rw [Gk]; exact h)).trans ?_) | (refine (vF_g rfl rfl).trans ?_; refine (vF_g rfl rfl).trans ?_; refine (veq (x := G 446 2) (y := 2) (by rw [Gk]; exact h)).trans ?_) | (refine (vF_g rfl rfl).trans ?_; refine (veq (x := G 446 2) (y := 2) (by rw [Gk]; exact h)).trans ?_)); (first | (exact hr) | (refine (vF_g rfl rfl).trans ?_; refine (vF_g rfl rfl).trans ?_; exact hr) | (refine (vF_g rfl rfl).trans ?_; exact hr))), fun h hr => (by (first | (refine (vne (x := G 446 2) (y := 2) (by rw [Gk]; exact hk9) (by decide) (by rw [Gk]; exact h)).trans ?_) | (refine (vF_g rfl rfl).trans ?_; refine (vF_g rfl rfl).trans ?_; refine (vne (x := G 446 2) (y := 2) (by rw [Gk]; exact hk9) (by decide) (by rw [Gk]; exact h)).trans ?_) | (refine (vF_g rfl rfl).trans ?_; refine (vne (x := G 446 2) (y := 2) (by rw [Gk]; exact hk9) (by decide) (by rw [Gk]; exact h)).trans ?_)); (first | (exact hr) | (refine (vF_g rfl rfl).trans ?_; refine (vF_g rfl rfl).trans ?_; exact hr) | (refine (vF_g rfl rfl).trans ?_; exact hr)))⟩
theorem nx_round {D n p k F : Nat} {T : Nat → Nat} {g : Vw} (hn : n ≤ 900) (h1 : g 446 1 = p) (h2 : g 1 1 = n) (h3 : ∀ i, bt g i = T i) (hk : g 446 2 = k) (hk9 : k < 4294967296) (hp : p < n) : ∃ F', F ≤ F' ∧ vFn (vM MT0 (D + 1)) nb_X7_next (F + 7) 7 0 [vR 446, vI 1] [] g = vFn (vM MT0 (D + 1)) nb_X7_next F' 7 0 [vR 446, vI (if (k = 1 ∨ k = 2) ∧ kd9 (T (p + 1)) = k then 1 else 0)] [] (vup (vup g 446 5 (vstep (g 446 5) (T p))) 446 1 (p + 1)) := by
  rw [nx_r1 (F := F) hn h1 h2 h3 hk hp]
  generalize hG : vup (vup g 446 5 (vstep (g 446 5) (T p))) 446 1 (p + 1) = G
  have G1 : G 446 1 = p + 1 := by rw [← hG]; exact vup_eq
  have G2 : G 1 1 = n := by rw [← hG, vup_ne (Or.inl (by decide)), vup_ne (Or.inl (by decide))]; exact h2
  have G3 : ∀ i, bt G i = T i := fun i => by rw [← hG, bt_up, bt_up]; exact h3 i
  have Gk : G 446 2 = k := by rw [← hG, vup_ne (Or.inr (by decide)), vup_ne (Or.inr (by decide))]; exact hk
  have at11 : ∀ F, vFn (vM MT0 (D + 1)) nb_X7_next (F + 3) 11 0 [vR 446, vI 1] [] G = vFn (vM MT0 (D + 1)) nb_X7_next F 7 0 [vR 446, vI (if kd9 (T (p + 1)) = k then 1 else 0)] [] G := fun F => nx_r11 hn hp hk9 G1 G2 G3 Gk
  by_cases c1 : k = 1
  · refine ⟨F + 1, by omega, ?_⟩
    rw [veq c1, at11 (F + 1)]
    by_cases q : kd9 (T (p + 1)) = k
    · rw [if_pos q, if_pos ⟨Or.inl c1, q⟩]
    · rw [if_neg q, if_neg (fun w => q w.2)]
  · rw [vne hk9 (by decide) c1]
    by_cases c2 : k = 2
    · refine ⟨F, by omega, (nx_r10 Gk hk9 _).1 c2 ((at11 F).trans ?_)⟩
      by_cases q : kd9 (T (p + 1)) = k
      · rw [if_pos q, if_pos ⟨Or.inr c2, q⟩]
      · rw [if_neg q, if_neg (fun w => q w.2)]
    · refine ⟨F + 1, by omega, (nx_r10 Gk hk9 _).2 c2 ?_⟩
      rw [if_neg (fun w => w.1.elim c1 c2)]
      exact nx_r13
/-- the rest of a token -/
theorem nx_rest {D n k : Nat} {T : Nat → Nat} (hn : n ≤ 900) (hT0 : ∀ i, n ≤ i → T i = 4294967295) (hk9 : k = 1 ∨ k = 2) : ∀ (m p c F : Nat) (g : Vw), c + 7 * m + 3 ≤ F → g 446 1 = p → g 1 1 = n → (∀ i, bt g i = T i) → g 446 2 = k → p ≤ n → n - p ≤ m → ∃ c', c ≤ c' ∧ vFn (vM MT0 (D + 1)) nb_X7_next F 7 0 [vR 446, vI (if kd9 (T p) = k then 1 else 0)] [] g = vFn (vM MT0 (D + 1)) nb_X7_next c' 15 0 [vR 446, vI 0] [] (vup (vup g 446 5 (vfold T k m p (g 446 5))) 446 1 (rn T k m p)) := by
  have out : ∀ (p c F : Nat) (g : Vw), c + 3 ≤ F → g 446 1 = p → g 1 1 = n → p ≤ n → ∃ c', c ≤ c' ∧ vFn (vM MT0 (D + 1)) nb_X7_next F 7 0 [vR 446, vI 0] [] g = vFn (vM MT0 (D + 1)) nb_X7_next c' 15 0 [vR 446, vI 0] [] g := by
    intro p c F g hF h1 h2 h4
    obtain ⟨F1, rfl⟩ : ∃ F1, F = F1 + 2 := ⟨F - 2, by omega⟩
    by_cases q : p < n
    · exact ⟨F1, by omega, (by (first | (refine (vlt (x := g 446 1) (y := g 1 1) (by omega) (by omega)).trans ?_) | (refine (vF_g rfl rfl).trans ?_; refine (vF_g rfl rfl).trans ?_; refine (vlt (x := g 446 1) (y := g 1 1) (by omega) (by omega)).trans ?_) | (refine (vF_g rfl rfl).trans ?_; refine (vlt (x := g 446 1) (y := g 1 1) (by omega) (by omega)).trans ?_)); (first | (exact (veq (x := 0) (y := 0) rfl)) | (refine (vF_g rfl rfl).trans ?_; refine (vF_g rfl rfl).trans ?_; exact (veq (x := 0) (y := 0) rfl)) | (refine (vF_g rfl rfl).trans ?_; exact (veq (x := 0) (y := 0) rfl))))⟩
    · exact ⟨F1 + 1, by omega, (by (first | (refine (vge2 (x := g 446 1) (y := g 1 1) (by omega) (by omega)).trans ?_) | (refine (vF_g rfl rfl).trans ?_; refine (vF_g rfl rfl).trans ?_; refine (vge2 (x := g 446 1) (y := g 1 1) (by omega) (by omega)).trans ?_) | (refine (vF_g rfl rfl).trans ?_; refine (vge2 (x := g 446 1) (y := g 1 1) (by omega) (by omega)).trans ?_)); (first | (exact rfl) | (refine (vF_g rfl rfl).trans ?_; refine (vF_g rfl rfl).trans ?_; exact rfl) | (refine (vF_g rfl rfl).trans ?_; refine (vF_g rfl rfl).trans ?_; refine (vF_g rfl rfl).trans ?_; exact rfl) | (refine (vF_g rfl rfl).trans ?_; exact rfl)))⟩
  have none9 : ∀ p, n ≤ p → kd9 (T p) ≠ k := by
    intro p hp
    rw [hT0 p hp]
    have e : kd9 4294967295 = 0 := by decide
    rw [e]
    omega
  intro m
  induction m with
  | zero =>
    intro p c F g hF h1 h2 h3 h4 h5 h6
    rw [if_neg (none9 p (by omega))]
    obtain ⟨c', k1, k2⟩ := out p c F g (by omega) h1 h2 h5
    refine ⟨c', k1, ?_⟩
    rw [k2, show vfold T k 0 p (g 446 5) = g 446 5 from rfl, show rn T k 0 p = p from rfl, vup_id (f := g) (k := 446) (i := 5) rfl, vup_id h1]
  | succ m ih =>
    intro p c F g hF h1 h2 h3 h4 h5 h6
    by_cases q : kd9 (T p) = k
    · have hp : p < n := Nat.lt_of_not_le fun w => none9 p w q
      obtain ⟨F1, rfl⟩ : ∃ F1, F = F1 + 7 := ⟨F - 7, by omega⟩
      rw [if_pos q]
      obtain ⟨F2, f1, f2⟩ := nx_round (D := D) (F := F1) hn h1 h2 h3 h4 (by omega) hp
      rw [f2]
      have e : (if (k = 1 ∨ k = 2) ∧ kd9 (T (p + 1)) = k then 1 else 0) = (if kd9 (T (p + 1)) = k then 1 else 0) := by
        by_cases w : kd9 (T (p + 1)) = k
        · rw [if_pos w, if_pos ⟨hk9, w⟩]
        · rw [if_neg w, if_neg (fun x => w x.2)]
      rw [e]
      obtain ⟨c', k1, k2⟩ := ih (p + 1) c F2 (vup (vup g 446 5 (vstep (g 446 5) (T p))) 446 1 (p + 1)) (by omega) vup_eq (by rw [vup_ne (Or.inl (by decide)), vup_ne (Or.inl (by decide))]; exact h2) (fun i => by rw [bt_up, bt_up]; exact h3 i) (by rw [vup_ne (Or.inr (by decide)), vup_ne (Or.inr (by decide))]; exact h4) (by omega) (by omega)
      refine ⟨c', k1, ?_⟩
      have e5 : vup (vup g 446 5 (vstep (g 446 5) (T p))) 446 1 (p + 1) 446 5 = vstep (g 446 5) (T p) := by rw [vup_ne (Or.inr (by decide)), vup_eq]
      have ev : vfold T k (m + 1) p (g 446 5) = vfold T k m (p + 1) (vstep (g 446 5) (T p)) := if_pos q
      have er : rn T k (m + 1) p = rn T k m (p + 1) := if_pos q
      rw [k2, e5, ev, er, vup_sw (f := vup g 446 5 (vstep (g 446 5) (T p))) (Or.inr (by decide)), vup_vup, vup_vup]
    · rw [if_neg q]
      obtain ⟨c', k1, k2⟩ := out p c F g (by omega) h1 h2 h5
      refine ⟨c', k1, ?_⟩
      have ev : vfold T k (m + 1) p (g 446 5) = g 446 5 := if_neg q
      have er : rn T k (m + 1) p = p := if_neg q
      rw [k2, ev, er, vup_id (f := g) (k := 446) (i := 5) rfl, vup_id h1]
/-- the tokens' object behind next -/
def tkv (f : Vw) (e k s v : Nat) : Vw := fun a b => if a = 446 then (if b = 1 then e else if b = 2 then k else if b = 3 then s else if b = 4 then e - s else if b = 5 then v else f a b) else f a b
theorem tkv_is {f : Vw} {e0 e k s v v0 z : Nat} (hz : z = e - s) : vup (vup (vup (vup (vup (vup (vup f 446 1 e0) 446 3 s) 446 2 k) 446 5 v0) 446 5 v) 446 1 e) 446 4 z = tkv f e k s v := by
  subst hz
  funext a b
  unfold tkv
  by_cases ha : a = 446
  · subst ha
    rw [if_pos rfl]
    by_cases b1 : b = 1
    · subst b1
      rw [if_pos rfl, vup_ne (Or.inr (by decide)), vup_eq]
    rw [if_neg b1]
    by_cases b2 : b = 2
    · subst b2
      rw [if_pos rfl, vup_ne (Or.inr (by decide)), vup_ne (Or.inr (by decide)), vup_ne (Or.inr (by decide)), vup_ne (Or.inr (by decide)), vup_eq]
    rw [if_neg b2]
    by_cases b3 : b = 3
    · subst b3
      rw [if_pos rfl, vup_ne (Or.inr (by decide)), vup_ne (Or.inr (by decide)), vup_ne (Or.inr (by decide)), vup_ne (Or.inr (by decide)), vup_ne (Or.inr (by decide)), vup_eq]
    rw [if_neg b3]
    by_cases b4 : b = 4
    · subst b4
      rw [if_pos rfl, vup_eq]
    rw [if_neg b4]
    by_cases b5 : b = 5
    · subst b5
      rw [if_pos rfl, vup_ne (Or.inr (by decide)), vup_ne (Or.inr (by decide)), vup_eq]
    rw [if_neg b5, vup_ne (Or.inr b4), vup_ne (Or.inr b1), vup_ne (Or.inr b5), vup_ne (Or.inr b5), vup_ne (Or.inr b2), vup_ne (Or.inr b3), vup_ne (Or.inr b1)]
  · rw [if_neg ha, vup_ne (Or.inl ha), vup_ne (Or.inl ha), vup_ne (Or.inl ha), vup_ne (Or.inl ha), vup_ne (Or.inl ha), vup_ne (Or.inl ha), vup_ne (Or.inl ha)]
/-- a token: where it begins, its kind, where it ends, its value -/
def tS (T : Nat → Nat) (p : Nat) : Nat := sk T 901 p
def tK (T : Nat → Nat) (p : Nat) : Nat := kd9 (T (tS T p))
def tE (T : Nat → Nat) (p : Nat) : Nat := if tK T p = 0 then tS T p else if tK T p = 1 ∨ tK T p = 2 then rn T (tK T p) 901 (tS T p) else tS T p + 1
noncomputable def tV (T : Nat → Nat) (p : Nat) : Nat := if tK T p = 0 then 0 else if tK T p = 1 ∨ tK T p = 2 then vfold T (tK T p) 901 (tS T p) 0 else vstep 0 (T (tS T p))
theorem sk_le {T : Nat → Nat} {n : Nat} (hT0 : ∀ i, n ≤ i → T i = 4294967295) : ∀ m p, p ≤ n → p ≤ sk T m p ∧ sk T m p ≤ n := by
  intro m
  induction m with
  | zero => intro p h; exact ⟨Nat.le_refl _, h⟩
  | succ m ih =>
    intro p h
    by_cases q : T p = 32
    · rw [show sk T (m + 1) p = sk T m (p + 1) from if_pos q]
      have hp : p < n := Nat.lt_of_not_le fun w => by rw [hT0 p w] at q; omega
      have := ih (p + 1) (by omega)
      omega
    · rw [show sk T (m + 1) p = p from if_neg q]
      exact ⟨Nat.le_refl _, h⟩
theorem rn_le {T : Nat → Nat} {n k : Nat} (hk : 1 ≤ k) (hT0 : ∀ i, n ≤ i → T i = 4294967295) : ∀ m p, p ≤ n → p ≤ rn T k m p ∧ rn T k m p ≤ n := by
  intro m
  induction m with
  | zero => intro p h; exact ⟨Nat.le_refl _, h⟩
  | succ m ih =>
    intro p h
    by_cases q : kd9 (T p) = k
    · rw [show rn T k (m + 1) p = rn T k m (p + 1) from if_pos q]
      have hp : p < n := Nat.lt_of_not_le fun w => by
        rw [hT0 p w, show kd9 4294967295 = 0 from by decide] at q
        omega
      have := ih (p + 1) (by omega)
      omega
    · rw [show rn T k (m + 1) p = p from if_neg q]
      exact ⟨Nat.le_refl _, h⟩
theorem kd9_0 {x : Nat} (h : x < 256 ∨ x = 4294967295) (h0 : kd9 x = 0) : x = 4294967295 := by
  unfold kd9 at h0
  rcases h with h | h
  · split at h0
    · cases h0
    · split at h0
      · cases h0
      · split at h0
        · cases h0
        · split at h0
          · cases h0
          · split at h0
            · assumption
            · cases h0
  · exact h
theorem v_next {D n p : Nat} {T : Nat → Nat} {f : Vw} (hn : n ≤ 900) (h1 : f 446 1 = p) (h2 : f 1 1 = n) (h3 : ∀ i, bt f i = T i) (hp : p ≤ n) : vM MT0 (D + 2) 48 [vR 446] f = some ((1, 0), vW 3, tkv f (tE T p) (tK T p) (tS T p) (tV T p)) := by
  have hT0 : ∀ i, n ≤ i → T i = 4294967295 := fun i hi => by
    rw [← h3 i]
    unfold bt
    rw [if_neg (by omega)]
  have hTl : ∀ i, T i < 256 ∨ T i = 4294967295 := fun i => by rw [← h3 i]; exact bt_lt f i
  obtain ⟨hs1, hs2⟩ := sk_le hT0 901 p hp
  refine vM_go rfl rfl rfl rfl fun F0 hF0 => ?_
  show vFn (vM MT0 (D + 1)) nb_X7_next (F0 + 60) 0 0 [vR 446, vW 3] [] f = _
  obtain ⟨c, c1, c2⟩ := nx_skip (D := D) hn hT0 901 p 900000 (F0 + 60) f (by omega) h1 h2 h3 hp (by omega)
  rw [c2]
  clear c2
  have hS : tS T p = sk T 901 p := rfl
  rw [← hS] at hs1 hs2 ⊢
  have hK : tK T p = kd9 (T (tS T p)) := rfl
  generalize hs : tS T p = s at hs1 hs2 hK ⊢
  generalize hk : tK T p = k at hK ⊢
  obtain ⟨F, rfl⟩ : ∃ F, c = F + 3 := ⟨c - 3, by omega⟩
  have hk32 : k < 4294967296 := by
    rw [hK]
    unfold kd9
    split
    · decide
    · split
      · decide
      · split
        · decide
        · split
          · decide
          · split <;> decide
  -- block 3
  have g1 : vup f 446 1 s 446 1 = s := vup_eq
  have e3 : vFn (vM MT0 (D + 1)) nb_X7_next (F + 3) 3 0 [vR 446, vW 3] [] (vup f 446 1 s) = vc3 (bv k) (bv 0) (vFn (vM MT0 (D + 1)) nb_X7_next (F + 2) 4 0 [vR 446, vW 3] [] (vup (vup (vup f 446 1 s) 446 3 s) 446 2 k)) (vFn (vM MT0 (D + 1)) nb_X7_next (F + 2) 5 0 [vR 446, vW 3] [] (vup (vup (vup f 446 1 s) 446 3 s) 446 2 k)) (vFn (vM MT0 (D + 1)) nb_X7_next (F + 2) 4 0 [vR 446, vW 3] [] (vup (vup (vup f 446 1 s) 446 3 s) 446 2 k)) := by
    have b1 : vup (vup f 446 1 s) 446 3 (vup f 446 1 s 446 1) 446 1 = s := by rw [vup_ne (Or.inr (by decide))]; exact g1
    have b2 : vup (vup f 446 1 s) 446 3 (vup f 446 1 s 446 1) 1 1 ≤ 900 := by rw [vup_ne (Or.inl (by decide)), vup_ne (Or.inl (by decide)), h2]; exact hn
    have b3 : bt (vup (vup f 446 1 s) 446 3 (vup f 446 1 s 446 1)) (vup (vup f 446 1 s) 446 3 (vup f 446 1 s 446 1) 446 1) = T s := by rw [b1, bt_up, bt_up, h3]
    (first | (refine (vbnd_0 (v_byteAt (i := vup (vup f 446 1 s) 446 3 (vup f 446 1 s 446 1) 446 1) (f := vup (vup f 446 1 s) 446 3 (vup f 446 1 s 446 1)) (by rw [b1]; omega) b2)).trans ?_) | (refine (vF_g rfl rfl).trans ?_; refine (vF_g rfl rfl).trans ?_; refine (vbnd_0 (v_byteAt (i := vup (vup f 446 1 s) 446 3 (vup f 446 1 s 446 1) 446 1) (f := vup (vup f 446 1 s) 446 3 (vup f 446 1 s 446 1)) (by rw [b1]; omega) b2)).trans ?_) | (refine (vF_g rfl rfl).trans ?_; refine (vbnd_0 (v_byteAt (i := vup (vup f 446 1 s) 446 3 (vup f 446 1 s 446 1) 446 1) (f := vup (vup f 446 1 s) 446 3 (vup f 446 1 s 446 1)) (by rw [b1]; omega) b2)).trans ?_))
    (first | (refine (vbnd_0 (v_kindOf (x := bt (vup (vup f 446 1 s) 446 3 (vup f 446 1 s 446 1)) (vup (vup f 446 1 s) 446 3 (vup f 446 1 s 446 1) 446 1)) (f := vup (vup f 446 1 s) 446 3 (vup f 446 1 s 446 1)) (bt_lt _ _))).trans ?_) | (refine (vF_g rfl rfl).trans ?_; refine (vF_g rfl rfl).trans ?_; refine (vbnd_0 (v_kindOf (x := bt (vup (vup f 446 1 s) 446 3 (vup f 446 1 s 446 1)) (vup (vup f 446 1 s) 446 3 (vup f 446 1 s 446 1) 446 1)) (f := vup (vup f 446 1 s) 446 3 (vup f 446 1 s 446 1)) (bt_lt _ _))).trans ?_) | (refine (vF_g rfl rfl).trans ?_; refine (vbnd_0 (v_kindOf (x := bt (vup (vup f 446 1 s) 446 3 (vup f 446 1 s 446 1)) (vup (vup f 446 1 s) 446 3 (vup f 446 1 s 446 1) 446 1)) (f := vup (vup f 446 1 s) 446 3 (vup f 446 1 s 446 1)) (bt_lt _ _))).trans ?_))
    rw [b3, ← hK, g1]
    (first | (refine Eq.trans (b := vc3 (bv (vup (vup (vup f 446 1 s) 446 3 s) 446 2 k 446 2)) (bv 0) (vFn (vM MT0 (D + 1)) nb_X7_next (F + 2) 4 0 [vR 446, vW 3] [] (vup (vup (vup f 446 1 s) 446 3 s) 446 2 k)) (vFn (vM MT0 (D + 1)) nb_X7_next (F + 2) 5 0 [vR 446, vW 3] [] (vup (vup (vup f 446 1 s) 446 3 s) 446 2 k)) (vFn (vM MT0 (D + 1)) nb_X7_next (F + 2) 4 0 [vR 446, vW 3] [] (vup (vup (vup f 446 1 s) 446 3 s) 446 2 k))) rfl ?_) | (refine (vF_g rfl rfl).trans ?_; refine (vF_g rfl rfl).trans ?_; refine Eq.trans (b := vc3 (bv (vup (vup (vup f 446 1 s) 446 3 s) 446 2 k 446 2)) (bv 0) (vFn (vM MT0 (D + 1)) nb_X7_next (F + 2) 4 0 [vR 446, vW 3] [] (vup (vup (vup f 446 1 s) 446 3 s) 446 2 k)) (vFn (vM MT0 (D + 1)) nb_X7_next (F + 2) 5 0 [vR 446, vW 3] [] (vup (vup (vup f 446 1 s) 446 3 s) 446 2 k)) (vFn (vM MT0 (D + 1)) nb_X7_next (F + 2) 4 0 [vR 446, vW 3] [] (vup (vup (vup f 446 1 s) 446 3 s) 446 2 k))) rfl ?_) | (refine (vF_g rfl rfl).trans ?_; refine Eq.trans (b := vc3 (bv (vup (vup (vup f 446 1 s) 446 3 s) 446 2 k 446 2)) (bv 0) (vFn (vM MT0 (D + 1)) nb_X7_next (F + 2) 4 0 [vR 446, vW 3] [] (vup (vup (vup f 446 1 s) 446 3 s) 446 2 k)) (vFn (vM MT0 (D + 1)) nb_X7_next (F + 2) 5 0 [vR 446, vW 3] [] (vup (vup (vup f 446 1 s) 446 3 s) 446 2 k)) (vFn (vM MT0 (D + 1)) nb_X7_next (F + 2) 4 0 [vR 446, vW 3] [] (vup (vup (vup f 446 1 s) 446 3 s) 446 2 k))) rfl ?_))
    rw [vup_eq]
  rw [e3]
  clear e3
  -- from block 7 on
  generalize hG : vup (vup (vup (vup f 446 1 s) 446 3 s) 446 2 k) 446 5 0 = G
  have G1 : G 446 1 = s := by rw [← hG, vup_ne (Or.inr (by decide)), vup_ne (Or.inr (by decide)), vup_ne (Or.inr (by decide))]; exact g1
  have G2 : G 1 1 = n := by rw [← hG, vup_ne (Or.inl (by decide)), vup_ne (Or.inl (by decide)), vup_ne (Or.inl (by decide)), vup_ne (Or.inl (by decide))]; exact h2
  have G3 : ∀ i, bt G i = T i := fun i => by rw [← hG, bt_up, bt_up, bt_up, bt_up]; exact h3 i
  have G4 : G 446 2 = k := by rw [← hG, vup_ne (Or.inr (by decide)), vup_eq]
  have G5 : G 446 5 = 0 := by rw [← hG, vup_eq]
  have Gs : G 446 3 = s := by rw [← hG, vup_ne (Or.inr (by decide)), vup_ne (Or.inr (by decide)), vup_eq]
  -- the end: the size
  have fin : ∀ (F9 e v l1 : Nat), s ≤ e → e ≤ n → vFn (vM MT0 (D + 1)) nb_X7_next (F9 + 1) 15 0 [vR 446, vI l1] [] (vup (vup G 446 5 v) 446 1 e) = some ((1, 0), vW 3, tkv f e k s v) := by
    intro F9 e v l1 he1 he2
    (first | (refine Eq.trans (b := some (((1, 0), vW 3, vup (vup (vup G 446 5 v) 446 1 e) 446 4 (g_sub (vup (vup G 446 5 v) 446 1 e 446 1) (vup (vup G 446 5 v) 446 1 e 446 3))) : VR)) rfl ?_) | (refine (vF_g rfl rfl).trans ?_; refine (vF_g rfl rfl).trans ?_; refine Eq.trans (b := some (((1, 0), vW 3, vup (vup (vup G 446 5 v) 446 1 e) 446 4 (g_sub (vup (vup G 446 5 v) 446 1 e 446 1) (vup (vup G 446 5 v) 446 1 e 446 3))) : VR)) rfl ?_) | (refine (vF_g rfl rfl).trans ?_; refine Eq.trans (b := some (((1, 0), vW 3, vup (vup (vup G 446 5 v) 446 1 e) 446 4 (g_sub (vup (vup G 446 5 v) 446 1 e 446 1) (vup (vup G 446 5 v) 446 1 e 446 3))) : VR)) rfl ?_))
    rw [vup_eq, vup_ne (Or.inr (by decide)), vup_ne (Or.inr (by decide)), Gs, ← hG, tkv_is]
    unfold g_sub
    omega
  by_cases k0 : k = 0
  · have hsn : s = n := by
      have := kd9_0 (hTl s) (by rw [← hK]; exact k0)
      rcases Nat.lt_or_ge s n with q | q
      · have h9 := bt_in (f := f) (i := s) (by rw [h2]; exact q)
        rw [h3 s] at h9
        omega
      · omega
    rw [veq k0]
    (first | (refine Eq.trans (b := vFn (vM MT0 (D + 1)) nb_X7_next F 7 0 [vR 446, vI 0] [] (vup (vup (vup (vup f 446 1 s) 446 3 s) 446 2 k) 446 5 0)) rfl ?_) | (refine (vF_g rfl rfl).trans ?_; refine (vF_g rfl rfl).trans ?_; refine Eq.trans (b := vFn (vM MT0 (D + 1)) nb_X7_next F 7 0 [vR 446, vI 0] [] (vup (vup (vup (vup f 446 1 s) 446 3 s) 446 2 k) 446 5 0)) rfl ?_) | (refine (vF_g rfl rfl).trans ?_; refine Eq.trans (b := vFn (vM MT0 (D + 1)) nb_X7_next F 7 0 [vR 446, vI 0] [] (vup (vup (vup (vup f 446 1 s) 446 3 s) 446 2 k) 446 5 0)) rfl ?_))
    rw [hG]
    obtain ⟨F9, rfl⟩ : ∃ F9, F = F9 + 2 := ⟨F - 2, by omega⟩
    have e7 : vFn (vM MT0 (D + 1)) nb_X7_next (F9 + 2) 7 0 [vR 446, vI 0] [] G = vFn (vM MT0 (D + 1)) nb_X7_next (F9 + 1) 15 0 [vR 446, vI 0] [] G := (by (first | (refine (vge2 (x := G 446 1) (y := G 1 1) (by omega) (by omega)).trans ?_) | (refine (vF_g rfl rfl).trans ?_; refine (vF_g rfl rfl).trans ?_; refine (vge2 (x := G 446 1) (y := G 1 1) (by omega) (by omega)).trans ?_) | (refine (vF_g rfl rfl).trans ?_; refine (vge2 (x := G 446 1) (y := G 1 1) (by omega) (by omega)).trans ?_)); (first | (exact rfl) | (refine (vF_g rfl rfl).trans ?_; refine (vF_g rfl rfl).trans ?_; exact rfl) | (refine (vF_g rfl rfl).trans ?_; refine (vF_g rfl rfl).trans ?_; refine (vF_g rfl rfl).trans ?_; exact rfl) | (refine (vF_g rfl rfl).trans ?_; exact rfl)))
    have e8 := fin F9 s 0 0 (Nat.le_refl _) (by omega)
    rw [vup_id G5, vup_id G1] at e8
    rw [e7, e8]
    unfold tE tV
    rw [hk, hs, if_pos k0, if_pos k0]
  · have hsn : s < n := by
      rcases Nat.lt_or_ge s n with q | q
      · exact q
      · rw [hT0 s q, show kd9 4294967295 = 0 from by decide] at hK
        exact absurd hK k0
    rw [vne hk32 (by decide) k0]
    (first | (refine Eq.trans (b := vFn (vM MT0 (D + 1)) nb_X7_next F 7 0 [vR 446, vI 1] [] (vup (vup (vup (vup f 446 1 s) 446 3 s) 446 2 k) 446 5 0)) rfl ?_) | (refine (vF_g rfl rfl).trans ?_; refine (vF_g rfl rfl).trans ?_; refine Eq.trans (b := vFn (vM MT0 (D + 1)) nb_X7_next F 7 0 [vR 446, vI 1] [] (vup (vup (vup (vup f 446 1 s) 446 3 s) 446 2 k) 446 5 0)) rfl ?_) | (refine (vF_g rfl rfl).trans ?_; refine Eq.trans (b := vFn (vM MT0 (D + 1)) nb_X7_next F 7 0 [vR 446, vI 1] [] (vup (vup (vup (vup f 446 1 s) 446 3 s) 446 2 k) 446 5 0)) rfl ?_))
    rw [hG]
    obtain ⟨F9, rfl⟩ : ∃ F9, F = F9 + 7 := ⟨F - 7, by omega⟩
    obtain ⟨F2, f1, f2⟩ := nx_round (D := D) (F := F9) hn G1 G2 G3 G4 hk32 hsn
    rw [f2, G5]
    by_cases k12 : k = 1 ∨ k = 2
    · have e : (if (k = 1 ∨ k = 2) ∧ kd9 (T (s + 1)) = k then 1 else 0) = (if kd9 (T (s + 1)) = k then 1 else 0) := by
        by_cases w : kd9 (T (s + 1)) = k
        · rw [if_pos w, if_pos ⟨k12, w⟩]
        · rw [if_neg w, if_neg (fun x => w x.2)]
      rw [e]
      obtain ⟨c', k1, k2⟩ := nx_rest (D := D) hn hT0 k12 900 (s + 1) 1 F2 (vup (vup G 446 5 (vstep 0 (T s))) 446 1 (s + 1)) (by omega) vup_eq (by rw [vup_ne (Or.inl (by decide)), vup_ne (Or.inl (by decide))]; exact G2) (fun i => by rw [bt_up, bt_up]; exact G3 i) (by rw [vup_ne (Or.inr (by decide)), vup_ne (Or.inr (by decide))]; exact G4) (by omega) (by omega)
      have e5 : vup (vup G 446 5 (vstep 0 (T s))) 446 1 (s + 1) 446 5 = vstep 0 (T s) := by rw [vup_ne (Or.inr (by decide)), vup_eq]
      obtain ⟨c9, rfl⟩ : ∃ c9, c' = c9 + 1 := ⟨c' - 1, by omega⟩
      obtain ⟨r1, r2⟩ := rn_le (T := T) (k := k) (by omega) hT0 900 (s + 1) (by omega)
      rw [k2, e5, vup_sw (f := vup G 446 5 (vstep 0 (T s))) (Or.inr (by decide)), vup_vup, vup_vup, fin c9 _ _ 0 (by omega) r2]
      have w1 : tE T p = rn T k 900 (s + 1) := by
        unfold tE
        rw [hk, hs, if_neg k0, if_pos k12]
        exact if_pos hK.symm
      have w2 : tV T p = vfold T k 900 (s + 1) (vstep 0 (T s)) := by
        unfold tV
        rw [hk, hs, if_neg k0, if_pos k12]
        exact if_pos hK.symm
      rw [w1, w2]
    · rw [if_neg (fun x => k12 x.1)]
      obtain ⟨F3, rfl⟩ : ∃ F3, F2 = F3 + 3 := ⟨F2 - 3, by omega⟩
      have hG9 : ∀ v, vup (vup G 446 5 v) 446 1 (s + 1) 1 1 = n := fun v => by rw [vup_ne (Or.inl (by decide)), vup_ne (Or.inl (by decide))]; exact G2
      have w1 : tE T p = s + 1 := by
        unfold tE
        rw [hk, hs, if_neg k0, if_neg k12]
      have w2 : tV T p = vstep 0 (T s) := by
        unfold tV
        rw [hk, hs, if_neg k0, if_neg k12]
      rw [w1, w2]
      by_cases q : s + 1 < n
      · have e7 : vFn (vM MT0 (D + 1)) nb_X7_next (F3 + 3) 7 0 [vR 446, vI 0] [] (vup (vup G 446 5 (vstep 0 (T s))) 446 1 (s + 1)) = vFn (vM MT0 (D + 1)) nb_X7_next (F3 + 1) 15 0 [vR 446, vI 0] [] (vup (vup G 446 5 (vstep 0 (T s))) 446 1 (s + 1)) := (by (first | (refine (vlt (x := vup (vup G 446 5 (vstep 0 (T s))) 446 1 (s + 1) 446 1) (y := vup (vup G 446 5 (vstep 0 (T s))) 446 1 (s + 1) 1 1) (by rw [hG9]; omega) (by rw [vup_eq, hG9]; exact q)).trans ?_) | (refine (vF_g rfl rfl).trans ?_; refine (vF_g rfl rfl).trans ?_; refine (vlt (x := vup (vup G 446 5 (vstep 0 (T s))) 446 1 (s + 1) 446 1) (y := vup (vup G 446 5 (vstep 0 (T s))) 446 1 (s + 1) 1 1) (by rw [hG9]; omega) (by rw [vup_eq, hG9]; exact q)).trans ?_) | (refine (vF_g rfl rfl).trans ?_; refine (vlt (x := vup (vup G 446 5 (vstep 0 (T s))) 446 1 (s + 1) 446 1) (y := vup (vup G 446 5 (vstep 0 (T s))) 446 1 (s + 1) 1 1) (by rw [hG9]; omega) (by rw [vup_eq, hG9]; exact q)).trans ?_)); (first | (exact (veq (x := 0) (y := 0) rfl)) | (refine (vF_g rfl rfl).trans ?_; refine (vF_g rfl rfl).trans ?_; exact (veq (x := 0) (y := 0) rfl)) | (refine (vF_g rfl rfl).trans ?_; exact (veq (x := 0) (y := 0) rfl))))
        rw [e7, fin F3 _ _ 0 (by omega) (by omega)]
      · have e7 : vFn (vM MT0 (D + 1)) nb_X7_next (F3 + 3) 7 0 [vR 446, vI 0] [] (vup (vup G 446 5 (vstep 0 (T s))) 446 1 (s + 1)) = vFn (vM MT0 (D + 1)) nb_X7_next (F3 + 2) 15 0 [vR 446, vI 0] [] (vup (vup G 446 5 (vstep 0 (T s))) 446 1 (s + 1)) := (by (first | (refine (vge2 (x := vup (vup G 446 5 (vstep 0 (T s))) 446 1 (s + 1) 446 1) (y := vup (vup G 446 5 (vstep 0 (T s))) 446 1 (s + 1) 1 1) (by rw [vup_eq]; omega) (by rw [vup_eq, hG9]; omega)).trans ?_) | (refine (vF_g rfl rfl).trans ?_; refine (vF_g rfl rfl).trans ?_; refine (vge2 (x := vup (vup G 446 5 (vstep 0 (T s))) 446 1 (s + 1) 446 1) (y := vup (vup G 446 5 (vstep 0 (T s))) 446 1 (s + 1) 1 1) (by rw [vup_eq]; omega) (by rw [vup_eq, hG9]; omega)).trans ?_) | (refine (vF_g rfl rfl).trans ?_; refine (vge2 (x := vup (vup G 446 5 (vstep 0 (T s))) 446 1 (s + 1) 446 1) (y := vup (vup G 446 5 (vstep 0 (T s))) 446 1 (s + 1) 1 1) (by rw [vup_eq]; omega) (by rw [vup_eq, hG9]; omega)).trans ?_)); (first | (exact rfl) | (refine (vF_g rfl rfl).trans ?_; refine (vF_g rfl rfl).trans ?_; exact rfl) | (refine (vF_g rfl rfl).trans ?_; refine (vF_g rfl rfl).trans ?_; refine (vF_g rfl rfl).trans ?_; exact rfl) | (refine (vF_g rfl rfl).trans ?_; exact rfl)))
        rw [e7, fin (F3 + 1) _ _ 0 (by omega) (by omega)]
end
