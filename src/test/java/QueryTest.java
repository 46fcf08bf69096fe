/** Promises 8 to 51: what an object tells, and simulations. */
public final class QueryTest {
    private static final Check CHECK = new Check("QueryTest");
    private static final int[] NO_INDEX = {-1, 4, 12, Integer.MIN_VALUE, Integer.MAX_VALUE};

    public static void main(String[] args) {
        counts();
        fog();
        noSuchEcho();
        noSuchValley();
        noSuchPair();
        money();
        staff();
        scores();
        reasons();
        preferences();
        blocking();
        fairs();
        queueOfTheFair();
        simulatedDays();
        desertsIn();
        leastWage();
        bestTest();
        richest();
        counters();
        rates();
        CHECK.finish();
    }

    private static void counts() {
        EchoFair fair = Check.loaded("fair 30;fog 9;valley a 1 1 1 0;valley b 1 1 1 0;"
            + "echo a 1 1 1 0;echo b 1 1 1 0;echo c 1 1 1 0;");
        CHECK.same("8: echoes", fair.echoCount(), 3);
        CHECK.same("9: valleys", fair.valleyCount(), 2);
        CHECK.same("11: season", fair.seasonLength(), 30);
        CHECK.same("10: day", fair.day(), 0);
        fair.passDays(60);
        fair.passDays(1);
        CHECK.same("10: day", fair.day(), 61);
        fair.purseAfter(0, 9);
        CHECK.same("10: not by simulation", fair.day(), 61);
    }

    private static void fog() {
        EchoFair fair = new EchoFair();
        int[] levels = {2, 7, 4};
        for (int day = 0; day < 9; day++) {
            CHECK.same("12: fog " + day, fair.fogOf(day), levels[day % 3]);
        }
        CHECK.same("12: last", fair.fogOf(9999), 2);
        fair.passDays(1);
        CHECK.same("12: of a day, not from now", fair.fogOf(1), 7);
        CHECK.argument("12: negative", () -> fair.fogOf(-1));
        CHECK.argument("12: over", () -> fair.fogOf(10000));
        CHECK.argument("12: least", () -> fair.fogOf(Integer.MIN_VALUE));
        CHECK.argument("12: most", () -> fair.fogOf(Integer.MAX_VALUE));
    }

    private static void noSuchEcho() {
        EchoFair fair = new EchoFair();
        for (int echo : NO_INDEX) {
            CHECK.index("15: " + echo, () -> fair.delayOf(echo));
            CHECK.index("16: " + echo, () -> fair.repeatsOf(echo));
            CHECK.index("17: " + echo, () -> fair.reserveWage(echo));
            CHECK.index("18: " + echo, () -> fair.resistanceOf(echo));
            CHECK.index("19: " + echo, () -> fair.savingsOf(echo));
            CHECK.index("20: " + echo, () -> fair.unpaidDays(echo));
            CHECK.index("21: " + echo, () -> fair.employerOf(echo));
            CHECK.index("31: " + echo, () -> fair.preferredValley(echo, 0));
            CHECK.index("34: " + echo, () -> fair.fairResult(echo));
            CHECK.index("35: " + echo, () -> fair.savingsAfter(echo, 1));
            CHECK.index("35: first " + echo, () -> fair.savingsAfter(echo, -1));
            CHECK.index("37: " + echo, () -> fair.desertsIn(echo));
            CHECK.index("44: " + echo, () -> fair.desertions(echo));
        }
        CHECK.same("15: last echo", fair.delayOf(3), 4);
    }

    private static void noSuchValley() {
        EchoFair fair = new EchoFair();
        for (int index : NO_INDEX) {
            int valley = index == 4 ? 3 : index;
            CHECK.index("22: " + valley, () -> fair.widthOf(valley));
            CHECK.index("23: " + valley, () -> fair.postsOf(valley));
            CHECK.index("24: " + valley, () -> fair.wageOf(valley));
            CHECK.index("25: " + valley, () -> fair.purseOf(valley));
            CHECK.index("26: " + valley, () -> fair.staffCount(valley));
            CHECK.index("27: " + valley, () -> fair.staffMember(valley, 0));
            CHECK.index("27: first " + valley, () -> fair.staffMember(valley, -1));
            CHECK.index("32: " + valley, () -> fair.preferredEcho(valley, 0));
            CHECK.index("36: " + valley, () -> fair.purseAfter(valley, 1));
            CHECK.index("36: first " + valley, () -> fair.purseAfter(valley, 121));
            CHECK.index("39: " + valley, () -> fair.bestTest(valley));
            CHECK.index("45: " + valley, () -> fair.repliesHeard(valley));
            CHECK.index("46: " + valley, () -> fair.wagesPaid(valley));
        }
        CHECK.same("22: last valley", fair.widthOf(2), 2);
    }

    private static void noSuchPair() {
        EchoFair fair = new EchoFair();
        int[][] pairs = {{-1, 0}, {3, 0}, {0, -1}, {0, 4}, {3, 4}, {Integer.MIN_VALUE, 3},
            {2, Integer.MAX_VALUE}};
        for (int[] pair : pairs) {
            String text = pair[0] + " " + pair[1];
            CHECK.index("28: " + text, () -> fair.isTested(pair[0], pair[1]));
            CHECK.index("29: " + text, () -> fair.seenScore(pair[0], pair[1]));
            CHECK.index("30: " + text, () -> fair.pairReason(pair[0], pair[1]));
            CHECK.index("38: " + text, () -> fair.leastWage(pair[0], pair[1]));
            CHECK.index("41: " + text, () -> fair.daysServed(pair[0], pair[1]));
            CHECK.index("54: " + text, () -> fair.test(pair[0], pair[1]));
        }
        CHECK.same("29: last pair", fair.seenScore(2, 3), 42);
    }

    /** A day on which the purse is just enough, and one on which a coin is missing. */
    private static void money() {
        EchoFair fair = Check.loaded("fair 9;fog 0;echo a 1 2 5 0;valley v 3 1 5 4;");
        fair.passDays(1);
        CHECK.same("19: just paid", fair.savingsOf(0), 10);
        CHECK.same("25: nothing left", fair.purseOf(0), 0);
        CHECK.same("20: paid", fair.unpaidDays(0), 0);
        fair.fund(0, 3);
        fair.passDays(1);
        CHECK.same("19: a coin is missing", fair.savingsOf(0), 10);
        CHECK.same("25: the purse stays", fair.purseOf(0), 9);
        CHECK.same("20: unpaid", fair.unpaidDays(0), 1);
        CHECK.same("21: serves", fair.employerOf(0), 0);
        fair.passDays(1);
        CHECK.same("20: paid again", fair.unpaidDays(0), 0);
        CHECK.same("25: paid again", fair.purseOf(0), 5);
        fair.passDays(1);
        CHECK.same("19: eleven", fair.savingsOf(0), 30);
        CHECK.same("25: a coin left", fair.purseOf(0), 1);
        fair.passDays(1);
        CHECK.same("20: unpaid on day 4", fair.unpaidDays(0), 1);
        fair.dismiss(0);
        CHECK.same("20: the contract ended", fair.unpaidDays(0), 0);
        CHECK.same("21: no contract", fair.employerOf(0), -1);
    }

    private static void staff() {
        EchoFair fair = Check.loaded("fair 30;fog 0;echo a 1 1 50 9;echo b 1 1 1 9;"
            + "valley v 1 3 10 100;valley w 1 3 1 0;");
        fair.passDays(1);
        CHECK.same("26: one", fair.staffCount(0), 1);
        fair.setWage(0, 60);
        fair.holdFair();
        CHECK.same("26: two", fair.staffCount(0), 2);
        CHECK.same("26: none", fair.staffCount(1), 0);
        CHECK.same("27: oldest", fair.staffMember(0, 0), 1);
        CHECK.same("27: next", fair.staffMember(0, 1), 0);
        CHECK.same("27: behind", fair.staffMember(0, 2), -1);
        CHECK.same("27: far behind", fair.staffMember(0, Integer.MAX_VALUE), -1);
        CHECK.same("27: before", fair.staffMember(0, -1), -1);
        CHECK.same("27: far before", fair.staffMember(0, Integer.MIN_VALUE), -1);
        CHECK.same("27: none", fair.staffMember(1, 0), -1);
        fair.passDays(1);
        CHECK.same("52: the oldest is paid first", fair.savingsOf(1), 10 + 60);
        CHECK.same("52: nothing left for the other", fair.savingsOf(0), 0);
        CHECK.same("20: unpaid", fair.unpaidDays(0), 1);
        fair.passDays(1);
        CHECK.same("52: two days without pay", fair.employerOf(0), -1);
        CHECK.same("26: one again", fair.staffCount(0), 1);
        CHECK.same("27: no more", fair.staffMember(0, 1), -1);
    }

    private static void scores() {
        EchoFair fair = new EchoFair();
        int[][] trueScores = {{56, 4, 86, 50}, {40, 20, 78, 34}, {56, -4, 78, 42}};
        for (int valley = 0; valley < 3; valley++) {
            for (int echo = 0; echo < 4; echo++) {
                String pair = valley + " " + echo;
                int want = trueScores[valley][echo];
                if (!fair.isTested(valley, echo)) {
                    CHECK.same("29: untested " + pair, fair.seenScore(valley, echo), 30);
                    CHECK.same("54: score " + pair, fair.test(valley, echo), want);
                }
                CHECK.yes("28: tested " + pair, fair.isTested(valley, echo));
                CHECK.same("29: seen " + pair, fair.seenScore(valley, echo), want);
            }
        }
        EchoFair worst = Check.loaded("fair 5;fog 2;echo a 9 1 1 0;valley b 1 1 1 0;");
        CHECK.same("54: least score", worst.test(0, 0), -22);
        EchoFair best = Check.loaded("fair 5;fog 2;echo a 9 9 1 0;valley b 9 1 1 0;");
        CHECK.same("54: greatest score", best.test(0, 0), 90);
        EchoFair trained = Check.loaded("fair 5;fog 2;echo a 1 1 1 0;valley b 1 1 9 99;"
            + "tested b a;");
        trained.passDays(1);
        trained.passDays(1);
        CHECK.same("29: before training", trained.seenScore(0, 0), 10);
        trained.train(0);
        CHECK.same("29: training is seen", trained.seenScore(0, 0), 20);
    }

    private static void reasons() {
        EchoFair fair = Check.loaded("fair 3;fog 9;echo a 5 2 5 0;echo b 1 1 5 0;"
            + "echo c 5 1 5 0;valley v 5 3 6 0;valley w 5 3 4 0;valley x 1 1 5 0;"
            + "tested v b;tested w b;tested v c;tested x a;");
        CHECK.same("30: more than the reserve wage", fair.pairReason(0, 0), 0);
        CHECK.same("30: wage", fair.pairReason(1, 0), 1);
        CHECK.same("30: wage first", fair.pairReason(1, 1), 1);
        CHECK.same("30: score -6", fair.pairReason(0, 1), 2);
        CHECK.same("30: score 10", fair.pairReason(0, 2), 0);
        CHECK.same("30: equal wage, score 4", fair.pairReason(2, 0), 0);
        fair.passDays(1);
        CHECK.same("30: fog drove it away", fair.pairReason(0, 2), 3);
        fair.setWage(0, 4);
        CHECK.same("30: wage before desertion", fair.pairReason(0, 2), 1);
        fair.setWage(0, 5);
        fair.setWage(1, 99);
        CHECK.same("30: only that valley", fair.pairReason(1, 2), 0);
        fair.holdFair();
        CHECK.same("30: a fair forgives nothing", fair.pairReason(0, 2), 3);
        fair.passDays(2);
        CHECK.same("30: not before the season", fair.pairReason(0, 2), 3);
        fair.fund(0, 999);
        fair.fund(1, 999);
        fair.fund(2, 999);
        fair.passDays(1);
        CHECK.same("30: forgiven", fair.pairReason(0, 2), 0);
        EchoFair zero = Check.loaded("fair 3;fog 9;echo a 5 2 5 0;valley v 9 3 5 0;valley w 1 1"
            + " 9 0;echo b 1 2 5 0;echo c 6 2 1 0;tested w c;");
        zero.test(0, 0);
        CHECK.same("30: score 4", zero.pairReason(0, 0), 0);
        CHECK.same("30: score 0", zero.seenScore(1, 2), 0);
        CHECK.same("30: score 0 is too low", zero.pairReason(1, 2), 2);
    }

    private static void preferences() {
        EchoFair fair = Check.loaded("fair 9;fog 0;echo a 1 3 5 0;echo b 1 4 5 0;echo c 1 3 9 0;"
            + "echo d 1 3 5 0;valley v 1 1 7 0;valley w 1 1 8 0;valley x 1 1 7 0;"
            + "valley y 1 1 4 0;tested v a;tested v b;");
        int[] valleys = {1, 0, 2, -1, -1};
        for (int rank = 0; rank < 5; rank++) {
            CHECK.same("31: rank " + rank, fair.preferredValley(0, rank), valleys[rank]);
        }
        CHECK.same("31: none", fair.preferredValley(2, 0), -1);
        CHECK.same("31: negative", fair.preferredValley(0, -1), -1);
        CHECK.same("31: far", fair.preferredValley(0, Integer.MAX_VALUE), -1);
        CHECK.same("31: far below", fair.preferredValley(0, Integer.MIN_VALUE), -1);
        int[] echoes = {1, 0, 3, -1, -1};
        for (int rank = 0; rank < 5; rank++) {
            CHECK.same("32: rank " + rank, fair.preferredEcho(0, rank), echoes[rank]);
        }
        CHECK.same("32: none", fair.preferredEcho(3, 0), -1);
        CHECK.same("32: negative", fair.preferredEcho(0, -1), -1);
        CHECK.same("32: far", fair.preferredEcho(0, Integer.MAX_VALUE), -1);
        CHECK.same("32: far below", fair.preferredEcho(0, Integer.MIN_VALUE), -1);
        fair.holdFair();
        CHECK.same("32: with contracts", fair.preferredEcho(1, 0), 0);
        CHECK.same("31: with contracts", fair.preferredValley(3, 0), 1);
        fair.test(2, 2);
        CHECK.same("32: the untested of score 30", fair.preferredEcho(2, 2), 3);
        fair.undo();
    }

    private static void blocking() {
        EchoFair fair = new EchoFair();
        CHECK.same("33: at first", fair.blockingPairs(), 9);
        fair.holdFair();
        CHECK.same("33: a fair leaves none", fair.blockingPairs(), 0);
        fair.setWage(1, 20);
        // yodel and horn would move to the free post of deep, and bell has no contract.
        CHECK.same("33: a free post", fair.blockingPairs(), 3);
        EchoFair full = Check.loaded("fair 9;fog 0;echo a 1 3 5 0;echo b 1 4 5 0;"
            + "valley v 1 1 7 0;valley w 1 1 6 0;");
        full.holdFair();
        CHECK.same("33: stable", full.blockingPairs(), 0);
        full.setWage(1, 7);
        CHECK.same("33: of equal wages the smaller number", full.blockingPairs(), 0);
        full.setWage(1, 8);
        CHECK.same("33: a would move, and w prefers it to b", full.blockingPairs(), 1);
        full.setWage(0, 4);
        CHECK.same("33: v is acceptable to none", full.blockingPairs(), 1);
        full.setWage(0, 7);
        full.setWage(1, 4);
        CHECK.same("33: v prefers a", full.blockingPairs(), 0);
        full.dismiss(0);
        CHECK.same("33: a has no contract, v a free post", full.blockingPairs(), 2);
        EchoFair lost = Check.loaded("fair 9;fog 0;echo a 1 3 5 0;valley v 1 1 9 0;"
            + "valley w 1 1 6 0;");
        lost.holdFair();
        CHECK.same("33: v pays more", lost.blockingPairs(), 0);
        lost.setWage(0, 4);
        CHECK.same("33: v pays too little", lost.blockingPairs(), 1);
        EchoFair bad = Check.loaded("fair 9;fog 0;echo a 9 1 5 0;valley v 1 1 9 0;"
            + "valley w 1 1 6 0;echo b 1 5 5 0;tested v b;");
        bad.setWage(0, 4);
        bad.setWage(1, 4);
        CHECK.same("33: no pair", bad.blockingPairs(), 0);
    }

    private static void fairs() {
        EchoFair fair = new EchoFair();
        int[] want = {0, 1, -1, 2};
        for (int echo = 0; echo < 4; echo++) {
            CHECK.same("34: echo " + echo, fair.fairResult(echo), want[echo]);
        }
        CHECK.same("34: changes nothing", fair.employerOf(0), -1);
        EchoFair cheap = new EchoFair();
        CHECK.same("34: acceptable", cheap.fairResult(1), 1);
        cheap.setWage(0, 1);
        cheap.setWage(1, 1);
        cheap.setWage(2, 1);
        CHECK.same("34: no longer acceptable", cheap.fairResult(1), -1);
        CHECK.same("34: counts nothing", fair.contractsMade(), 0);
        CHECK.state("34: is no operation", fair::undo);
        fair.holdFair();
        CHECK.same("34: a contract stays", fair.fairResult(0), 0);
        fair.setWage(0, 1);
        CHECK.same("34: also an unacceptable one", fair.fairResult(0), 0);
        fair.dismiss(3);
        CHECK.same("34: horn has the greater score", fair.fairResult(3), 2);
        CHECK.same("34: bell finds none", fair.fairResult(2), -1);
        fair.test(2, 2);
        CHECK.same("34: bell has the greater score", fair.fairResult(2), 2);
        CHECK.same("34: horn takes what is left", fair.fairResult(3), 1);
    }

    /** Step 3: the worst kept application gives way, of equal scores that of the greater number. */
    private static void queueOfTheFair() {
        EchoFair fair = Check.loaded("fair 9;fog 0;echo a 1 2 1 0;echo b 1 3 1 0;echo c 1 3 1 0;"
            + "echo d 1 5 1 0;echo e 1 9 1 0;valley v 1 2 9 0;valley w 1 1 5 0;valley x 1 1 2 0;"
            + "tested v a;tested v d;tested w e;tested x b;tested x c;");
        CHECK.same("53: contracts", fair.holdFair(), 4);
        CHECK.same("53: result", Check.contracts(fair), "v=b+d w=e x=a");
        CHECK.same("21: none left for c", fair.employerOf(2), -1);
        CHECK.same("53: nothing to do", fair.holdFair(), 0);
        fair.dismiss(1);
        CHECK.same("53: free echoes seek free posts", fair.holdFair(), 1);
        CHECK.same("53: result then", Check.contracts(fair), "v=d+b w=e x=a");
        fair.setWage(2, 99);
        CHECK.same("53: no post is taken away", fair.holdFair(), 0);
    }

    private static void simulatedDays() {
        EchoFair fair = new EchoFair();
        int[] savings = {0, 60, 60};
        for (int days = 0; days < 3; days++) {
            CHECK.same("35: days " + days, fair.savingsAfter(0, days), savings[days]);
        }
        CHECK.same("36: day 0", fair.purseAfter(0, 0), 60);
        CHECK.same("36: day 1", fair.purseAfter(0, 1), 24);
        CHECK.same("36: day 2", fair.purseAfter(0, 2), 48);
        CHECK.argument("35: negative", () -> fair.savingsAfter(0, -1));
        CHECK.argument("35: over", () -> fair.savingsAfter(3, 121));
        CHECK.argument("36: negative", () -> fair.purseAfter(2, -1));
        CHECK.argument("36: over", () -> fair.purseAfter(0, 121));
        CHECK.argument("36: most", () -> fair.purseAfter(0, Integer.MAX_VALUE));
        CHECK.state("35: no operation", fair::undo);
        EchoFair passed = new EchoFair();
        passed.passDays(60);
        passed.passDays(60);
        for (int echo = 0; echo < 4; echo++) {
            CHECK.same("35: 120 days", fair.savingsAfter(echo, 120), passed.savingsOf(echo));
        }
        for (int valley = 0; valley < 3; valley++) {
            CHECK.same("36: 120 days", fair.purseAfter(valley, 120), passed.purseOf(valley));
        }
        CHECK.same("35: nothing has changed", fair.day(), 0);
        CHECK.same("35: from a later day", passed.savingsAfter(1, 0), passed.savingsOf(1));
    }

    private static void desertsIn() {
        EchoFair fair = new EchoFair();
        CHECK.same("37: yodel", fair.desertsIn(0), 2);
        CHECK.same("37: horn", fair.desertsIn(3), 2);
        CHECK.same("37: no operation", fair.contractsMade(), 0);
        fair.passDays(1);
        CHECK.same("37: a day later", fair.desertsIn(0), 1);
        fair.passDays(1);
        int days = fair.desertsIn(0);
        int before = fair.desertions(0);
        for (int day = 1; day <= days; day++) {
            CHECK.same("37: not before", fair.desertions(0), before);
            fair.passDays(1);
        }
        CHECK.same("37: once more", fair.desertions(0), before + 1);
        // The purse loses two coins a day: days 0 to 117 are paid, 118 and 119 are not.
        EchoFair late = Check.loaded("fair 30;fog 0;echo a 1 1 2 0;valley v 1 1 3 236;");
        CHECK.same("37: after 120 days", late.desertsIn(0), 120);
        late.fund(0, 1);
        CHECK.same("37: paid on day 119", late.desertsIn(0), -1);
        EchoFair foggy = Check.loaded("fair 30;fog 1 0;echo a 1 1 2 0;valley v 1 1 2 0;");
        CHECK.same("37: fog on day 0", foggy.desertsIn(0), 1);
        EchoFair calm = Check.loaded("fair 30;fog 1 0;echo a 1 1 2 1;valley v 1 1 2 0;");
        CHECK.same("37: fog equal to the resistance", calm.desertsIn(0), -1);
        EchoFair poor = Check.loaded("fair 30;fog 1 0;echo a 1 1 3 1;valley v 1 1 3 0;");
        CHECK.same("37: two days unpaid", poor.desertsIn(0), 2);
    }

    private static void leastWage() {
        EchoFair fair = new EchoFair();
        CHECK.same("38: green and bell", fair.leastWage(0, 2), -1);
        CHECK.same("38: deep and yodel", fair.leastWage(1, 0), 11);
        CHECK.same("38: deep and mumble", fair.leastWage(1, 1), 4);
        CHECK.same("38: nothing changes", fair.wageOf(1), 8);
        fair.holdFair();
        CHECK.same("38: with a contract", fair.leastWage(0, 0), 1);
        CHECK.same("38: with a contract elsewhere", fair.leastWage(1, 0), -1);
        CHECK.same("38: no free post", fair.leastWage(2, 2), -1);
        CHECK.same("38: the reserve wage", fair.leastWage(1, 2), 14);
        EchoFair greedy = Check.loaded("fair 9;fog 0;echo a 1 1 99 0;valley v 1 1 1 0;");
        CHECK.same("38: 99", greedy.leastWage(0, 0), 99);
        EchoFair two = Check.loaded("fair 9;fog 0;echo a 1 1 9 0;valley v 1 1 50 0;"
            + "valley w 1 1 99 0;valley x 1 1 50 0;");
        CHECK.same("38: equal wage, smaller number", two.leastWage(0, 0), 99);
        CHECK.same("38: equal wage, greater number", two.leastWage(2, 0), -1);
        CHECK.same("38: more than the others", two.leastWage(1, 0), 51);
    }

    private static void bestTest() {
        EchoFair fair = new EchoFair();
        CHECK.same("39: green", fair.bestTest(0), 2);
        CHECK.same("39: deep", fair.bestTest(1), 2);
        fair.test(0, 2);
        CHECK.same("39: then horn", fair.bestTest(0), 3);
        fair.test(0, 3);
        CHECK.same("39: then mumble", fair.bestTest(0), 1);
        fair.test(0, 1);
        CHECK.same("39: then none", fair.bestTest(0), -1);
        fair.test(2, 0);
        fair.test(2, 2);
        CHECK.same("39: a negative score", fair.bestTest(2), 1);
        fair.holdFair();
        CHECK.same("39: all serve", fair.bestTest(1), -1);
        fair.dismiss(3);
        CHECK.same("39: all but one serve", fair.bestTest(1), 3);
        EchoFair equal = Check.loaded("fair 9;fog 0;echo a 9 1 9 0;echo b 3 2 9 0;echo c 1 2 9 0;"
            + "valley v 2 1 1 0;");
        CHECK.same("39: of equal scores the smaller number", equal.bestTest(0), 1);
    }

    private static void richest() {
        EchoFair fair = new EchoFair();
        CHECK.same("40: all have nothing", fair.richestEcho(), 0);
        fair.passDays(2);
        CHECK.same("40: yodel", fair.richestEcho(), 0);
        fair.train(0);
        CHECK.same("40: mumble", fair.richestEcho(), 1);
        EchoFair equal = Check.loaded("fair 9;fog 0;echo a 1 1 9 0;echo b 1 1 2 0;echo c 1 1 2 0;"
            + "valley v 2 3 2 9;");
        equal.passDays(1);
        CHECK.same("40: of two the smaller number", equal.richestEcho(), 1);
        CHECK.same("40: both have two", equal.savingsOf(2), 2);
    }

    private static void counters() {
        EchoFair fair = new EchoFair();
        fair.passDays(2);
        int[][] served = {{2, 0, 0, 0}, {0, 2, 0, 0}, {0, 0, 0, 2}};
        for (int valley = 0; valley < 3; valley++) {
            for (int echo = 0; echo < 4; echo++) {
                CHECK.same("41: " + valley + " " + echo, fair.daysServed(valley, echo),
                    served[valley][echo]);
            }
        }
        CHECK.same("42: made", fair.contractsMade(), 3);
        CHECK.same("43: ended", fair.contractsEnded(), 2);
        int[] deserted = {1, 0, 0, 1};
        for (int echo = 0; echo < 4; echo++) {
            CHECK.same("44: " + echo, fair.desertions(echo), deserted[echo]);
        }
        int[] replies = {12, 4, 10};
        int[] paid = {60, 32, 0};
        for (int valley = 0; valley < 3; valley++) {
            CHECK.same("45: " + valley, fair.repliesHeard(valley), replies[valley]);
            CHECK.same("46: " + valley, fair.wagesPaid(valley), paid[valley]);
        }
        fair.dismiss(1);
        CHECK.same("43: dismissed", fair.contractsEnded(), 3);
        CHECK.same("44: no desertion", fair.desertions(1), 0);
        fair.holdFair();
        int made = fair.contractsMade();
        CHECK.same("42: made at a fair", made, 6);
        fair.passDays(4);
        CHECK.same("48: contracts", fair.contractImbalance(), 0);
        CHECK.same("43: ended at the season", fair.contractsMade() - fair.contractsEnded(),
            fair.staffCount(0) + fair.staffCount(1) + fair.staffCount(2));
        fair.fund(2, 500);
        fair.train(0);
        CHECK.same("47: money", fair.moneyImbalance(), 0);
        CHECK.same("49: servants", fair.doubleServants(), 0);
        fair.save();
        Check.type(fair, "fair 1;fog 0;echo a 1 1 1 0;valley v 1 1 1 77;");
        fair.load();
        CHECK.same("47: after a load", fair.moneyImbalance(), 0);
        fair.restore();
        CHECK.same("47: after restore", fair.moneyImbalance(), 0);
        CHECK.same("48: after restore", fair.contractImbalance(), 0);
        CHECK.same("42: after restore", fair.contractsMade() > made ? 1 : 0, 1);
    }

    private static void rates() {
        EchoFair fair = new EchoFair();
        CHECK.yes("50: nothing", fair.meanSavings() == 0.0);
        CHECK.yes("51: nobody", fair.employmentRate() == 0.0f);
        fair.passDays(1);
        CHECK.yes("50: 76 of 4", fair.meanSavings() == 19.0);
        CHECK.yes("51: 3 of 4", fair.employmentRate() == 0.75f);
        EchoFair three = Check.loaded("fair 9;fog 0;echo a 1 1 9 0;echo b 1 1 2 0;echo c 1 1 9 0;"
            + "valley v 2 3 2 9;");
        three.passDays(1);
        CHECK.yes("50: 2 of 3", three.meanSavings() == 2.0 / 3.0);
        CHECK.yes("51: 1 of 3", three.employmentRate() == 1.0f / 3.0f);
    }
}
