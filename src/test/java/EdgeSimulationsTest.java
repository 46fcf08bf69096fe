/** The edges of promises 33 to 51: a test for each sentence. */
public final class EdgeSimulationsTest {
    private static final Check CHECK = new Check("EdgeSimulationsTest");
    private static final Numbers NUMBERS = new Numbers(CHECK);
    private static final String HEAD = "fair 30;fog 0;";
    private static final String NO_ECHO =
        "Throws `IndexOutOfBoundsException` if there is no such echo";
    private static final String NO_VALLEY =
        "Throws `IndexOutOfBoundsException` if there is no such valley";
    private static final String NO_PAIR =
        "Throws `IndexOutOfBoundsException` if there is no such valley or echo";
    private static final String NO_DAYS =
        "Throws `IllegalArgumentException` if days is out of range";

    public static void main(String[] args) {
        all(Edges.running(CHECK));
        CHECK.finish();
    }

    static void all(Edges edges) {
        edges.section("Terms");
        edges.holds("Simulations do not change anything.",
            EdgeSimulationsTest::simulationsChangeNothing);
        blocking(edges);
        simulatedFair(edges);
        simulatedDays(edges);
        choices(edges);
        counters(edges);
        balances(edges);
    }

    private static void blocking(Edges edges) {
        edges.section("Promise 33");
        edges.holds("An acceptable pair of a valley and an echo that does not serve it is a"
            + " blocking pair", EdgeSimulationsTest::acceptableAndNotServing);
        edges.holds("if the echo has no contract or prefers the valley to the one that it serves",
            EdgeSimulationsTest::wouldMove);
        edges.holds("and the valley has a free post or prefers the echo to one of the echoes that"
            + " serve it.", EdgeSimulationsTest::wouldTake);
        edges.holds("(If the valley that an echo serves is no longer acceptable, the echo prefers"
            + " every acceptable valley to it.)", EdgeSimulationsTest::noLongerAcceptable);
        edges.holds("Returns the number of pairs.", EdgeSimulationsTest::numberOfPairs);
    }

    private static void simulatedFair(Edges edges) {
        edges.section("Promise 34");
        edges.holds("Simulates a fair now", EdgeSimulationsTest::fairOfNow);
        edges.holds("Returns the number of the valley, or NONE.",
            EdgeSimulationsTest::resultOrNone);
        edges.holds(NO_ECHO, () -> NUMBERS.ofEchoes(EchoFair::fairResult));
    }

    private static void simulatedDays(Edges edges) {
        edges.section("Promise 35");
        edges.holds("Simulates days without any operation and returns the savings of an echo.",
            () -> noOperation(fair -> fair.savingsAfter(0, 9)));
        edges.holds("`days`: number of days, 0 to 120", () -> {
            CHECK.same("none", new EchoFair().savingsAfter(0, 0), 0);
            CHECK.same("the most", worker().savingsAfter(0, 120), 240);
        });
        edges.holds("Returns the savings after so many days.",
            EdgeSimulationsTest::savingsOfEachDay);
        edges.holds(NO_ECHO, EdgeSimulationsTest::savingsOfNoEcho);
        edges.holds(NO_DAYS, EdgeSimulationsTest::savingsAfterNoSuchDays);
        edges.section("Promise 36");
        edges.holds("Simulates days without any operation and returns the purse of a valley.",
            () -> noOperation(fair -> fair.purseAfter(0, 9)));
        edges.holds("`days`: number of days, 0 to 120", () -> {
            CHECK.same("none", new EchoFair().purseAfter(0, 0), 60);
            CHECK.same("the most", worker().purseAfter(0, 120), 121);
        });
        edges.holds("Returns the purse after so many days.", EdgeSimulationsTest::purseOfEachDay);
        edges.holds(NO_VALLEY, EdgeSimulationsTest::purseOfNoValley);
        edges.holds(NO_DAYS, EdgeSimulationsTest::purseAfterNoSuchDays);
        edges.section("Promise 37");
        edges.holds("Simulates days without any operation until an echo deserts.",
            () -> noOperation(fair -> fair.desertsIn(0)));
        edges.holds("Returns the smallest number of days from 1 to 120 after which the echo has"
            + " deserted once more than now, or NONE if there is none.",
            EdgeSimulationsTest::desertsFromOneTo120);
        edges.holds(NO_ECHO, () -> NUMBERS.ofEchoes(EchoFair::desertsIn));
    }

    private static void choices(Edges edges) {
        edges.section("Promise 38");
        edges.holds("Finds the smallest wage with which a valley would win an echo at a fair now.",
            EdgeSimulationsTest::wagesOfNow);
        edges.holds("Returns the smallest wage from 1 to 99 with which fairResult(echo) would be"
            + " the valley, or NONE if there is none.", EdgeSimulationsTest::wagesFromOneTo99);
        edges.holds(NO_PAIR, () -> NUMBERS.ofPairs(EchoFair::leastWage));
        edges.section("Promise 39");
        edges.holds("Returns the echo without a contract that the valley has not tested and that"
            + " has the greatest true score for it, of several the smallest number; NONE if there"
            + " is none.", EdgeSimulationsTest::testOrNone);
        edges.holds(NO_VALLEY, () -> NUMBERS.ofValleys(EchoFair::bestTest));
        edges.section("Promise 40");
        edges.holds("Returns the smallest number of such an echo.",
            EdgeSimulationsTest::richestOfEquals);
    }

    private static void counters(Edges edges) {
        edges.section("Promise 41");
        edges.holds("Returns on how many days an echo has served a valley (at step 2 of the day).",
            EdgeSimulationsTest::servedAtStepTwo);
        edges.holds(NO_PAIR, () -> NUMBERS.ofPairs(EchoFair::daysServed));
        edges.section("Promise 42");
        edges.holds("Returns how many contracts were made.", EdgeSimulationsTest::contractsMade);
        edges.section("Promise 43");
        edges.holds("Returns how many contracts have ended, in any way.",
            EdgeSimulationsTest::endedInAnyWay);
        edges.section("Promise 44");
        edges.holds("Returns how often an echo has deserted.",
            EdgeSimulationsTest::howOftenDeserted);
        edges.holds(NO_ECHO, () -> NUMBERS.ofEchoes(EchoFair::desertions));
        edges.section("Promise 45");
        edges.holds("the sum of the repeats of its echoes on all days.",
            EdgeSimulationsTest::repliesOfAllDays);
        edges.holds(NO_VALLEY, () -> NUMBERS.ofValleys(EchoFair::repliesHeard));
        edges.section("Promise 46");
        edges.holds("Returns the sum of all payments of a valley.",
            EdgeSimulationsTest::allPayments);
        edges.holds(NO_VALLEY, () -> NUMBERS.ofValleys(EchoFair::wagesPaid));
    }

    private static void balances(Edges edges) {
        edges.section("Promise 47");
        edges.holds("which is always 0.", () -> always("money", EchoFair::moneyImbalance));
        edges.section("Promise 48");
        edges.holds("Returns the difference, which is always 0.",
            () -> always("contracts", EchoFair::contractImbalance));
        edges.section("Promise 49");
        edges.holds("Counts the echoes that serve more than one valley.",
            EdgeSimulationsTest::oneValleyEach);
        edges.holds("Returns the number of echoes, which is always 0.",
            () -> always("servants", EchoFair::doubleServants));
        edges.section("Promise 50");
        edges.holds("Returns the sum of the savings, converted to double, divided by the number of"
            + " echoes, converted to double.", EdgeSimulationsTest::meanOfSavings);
        edges.section("Promise 51");
        edges.holds("Returns the number of echoes with a contract, converted to float, divided by"
            + " the number of echoes, converted to float.", EdgeSimulationsTest::shareOfEmployed);
    }

    private interface Query {
        int of(EchoFair fair);
    }

    /** A valley that earns three coins a day, and pays two of them to its one echo. */
    private static EchoFair worker() {
        return Check.loaded("fair 7;fog 9;echo a 1 1 2 0;valley v 3 1 2 1;");
    }

    private static void simulationsChangeNothing() {
        EchoFair fair = new EchoFair();
        fair.setWage(2, 14);
        fair.passDays(1);
        fair.formatContracts();
        fair.save();
        String before = State.of(fair);
        for (int echo = 0; echo < 4; echo++) {
            fair.fairResult(echo);
            fair.savingsAfter(echo, 120);
            fair.desertsIn(echo);
            fair.leastWage(2, echo);
        }
        for (int valley = 0; valley < 3; valley++) {
            fair.purseAfter(valley, 120);
            fair.leastWage(valley, 2);
            fair.bestTest(valley);
        }
        fair.richestEcho();
        fair.blockingPairs();
        CHECK.same("state", State.of(fair), before);
        CHECK.same("two operations, and no more", fair.undo(), 1);
        CHECK.same("the saved day", fair.restore(), 1);
        CHECK.same("the saved state", State.of(fair), before);
    }

    private static void noOperation(Query simulation) {
        EchoFair fair = new EchoFair();
        fair.setWage(0, 11);
        int first = simulation.of(fair);
        CHECK.same("the same answer again", simulation.of(fair), first);
        CHECK.same("only the wage can be undone", fair.undo(), 0);
        CHECK.state("nothing else", fair::undo);
        CHECK.same("nobody was hired", fair.contractsMade(), 0);
    }

    private static void acceptableAndNotServing() {
        EchoFair fair = Check.loaded(HEAD + "echo a 1 1 5 0;valley v 1 2 5 0;");
        CHECK.same("the wage is enough", fair.blockingPairs(), 1);
        fair.setWage(0, 4);
        CHECK.same("a coin too little", fair.blockingPairs(), 0);
        fair.setWage(0, 5);
        fair.holdFair();
        CHECK.same("it serves, and there is another post", fair.blockingPairs(), 0);
        EchoFair score = Check.loaded(HEAD + "echo a 6 2 1 0;echo b 3 1 1 0;valley v 1 1 1 0;"
            + "tested v a;tested v b;");
        CHECK.same("a score of 0, and one of 2", score.blockingPairs(), 1);
        EchoFair lost = Check.loaded("fair 30;fog 9;echo a 1 1 2 0;valley v 1 1 2 0;"
            + "valley w 1 1 1 0;");
        lost.passDays(1);
        CHECK.same("it has deserted", lost.blockingPairs(), 0);
        lost.setWage(1, 2);
        CHECK.same("but not w", lost.blockingPairs(), 1);
    }

    /** The echo a serves w; the wages of v and x say whether it would move. */
    private static void wouldMove() {
        EchoFair fair = Check.loaded(HEAD + "echo a 1 1 5 0;valley v 1 1 4 0;valley w 1 1 6 0;"
            + "valley x 1 1 4 0;");
        CHECK.same("no contract", fair.blockingPairs(), 1);
        fair.holdFair();
        int[] before = {0, 0, 1, 1};
        int[] behind = {0, 0, 0, 1};
        for (int wage = 4; wage <= 7; wage++) {
            fair.setWage(0, wage);
            CHECK.same("v pays " + wage, fair.blockingPairs(), before[wage - 4]);
            fair.setWage(0, 4);
            fair.setWage(2, wage);
            CHECK.same("x pays " + wage, fair.blockingPairs(), behind[wage - 4]);
            fair.setWage(2, 4);
        }
        fair.setWage(0, 7);
        fair.setWage(2, 7);
        CHECK.same("both pay more", fair.blockingPairs(), 2);
    }

    private static void wouldTake() {
        EchoFair fair = Check.loaded(HEAD + "echo a 1 4 6 0;echo b 1 4 5 0;echo c 1 4 6 0;"
            + "echo d 1 3 6 0;echo e 1 5 6 0;valley v 1 1 5 0;"
            + "tested v a;tested v b;tested v c;tested v d;tested v e;");
        fair.holdFair();
        CHECK.same("b serves", fair.employerOf(1), 0);
        CHECK.same("nobody else wants to", fair.blockingPairs(), 0);
        fair.setWage(0, 6);
        CHECK.same("a of the smaller number, and e of the greater score", fair.blockingPairs(), 2);
        for (int worst = 0; worst < 3; worst++) {
            CHECK.same("the worst at place " + worst, staffed(worst).blockingPairs(), 1);
        }
        CHECK.same("none is worse", staffed(3).blockingPairs(), 0);
        EchoFair free = staffed(3);
        free.dismiss(1);
        CHECK.same("a free post, for b and for d", free.blockingPairs(), 2);
    }

    /** A valley with three echoes, of which one is worse than the fourth, which has no post. */
    private static EchoFair staffed(int worst) {
        StringBuilder text = new StringBuilder(HEAD + "valley v 1 3 1 0;");
        for (int echo = 0; echo < 3; echo++) {
            char name = (char) ('a' + echo);
            text.append("echo ").append(name).append(echo == worst ? " 1 2 " : " 1 5 ")
                .append(echo + 1).append(" 0;tested v ").append(name).append(';');
        }
        EchoFair fair = Check.loaded(text + "echo d 1 1 4 0;");
        for (int wage = 1; wage <= 3; wage++) {
            fair.setWage(0, wage);
            fair.holdFair();
        }
        CHECK.same("staff", Check.contracts(fair), "v=a+b+c");
        fair.setWage(0, 4);
        return fair;
    }

    private static void noLongerAcceptable() {
        EchoFair fair = Check.loaded(HEAD + "echo a 1 1 5 0;valley v 1 1 5 0;valley w 1 1 4 0;"
            + "valley x 1 1 4 0;");
        fair.holdFair();
        fair.setWage(2, 5);
        CHECK.same("v still pays enough", fair.blockingPairs(), 0);
        fair.setWage(0, 4);
        CHECK.same("x, but not w", fair.blockingPairs(), 1);
        fair.setWage(1, 5);
        CHECK.same("x and w", fair.blockingPairs(), 2);
        fair.setWage(1, 4);
        fair.setWage(2, 4);
        CHECK.same("no other is acceptable", fair.blockingPairs(), 0);
    }

    private static void numberOfPairs() {
        EchoFair fair = Check.loaded(Numbers.crowd(12, 8));
        CHECK.same("all of 12 by 8", fair.blockingPairs(), 96);
        fair.holdFair();
        CHECK.same("none after a fair", fair.blockingPairs(), 0);
        fair.setWage(7, 99);
        CHECK.same("the seven of smaller numbers", fair.blockingPairs(), 7);
        fair.dismiss(7);
        CHECK.same("a post for each of the twelve", fair.blockingPairs(), 12);
    }

    private static void fairOfNow() {
        EchoFair fair = new EchoFair();
        fair.passDays(2);
        CHECK.same("it has deserted green", fair.fairResult(0), 2);
        CHECK.same("it has deserted old", fair.fairResult(3), 0);
        fair.passDays(3);
        CHECK.same("no season begins, though day 5 would begin one", fair.fairResult(0), 2);
        CHECK.same("no contract is made", fair.employerOf(0), -1);
        fair.holdFair();
        for (int echo = 0; echo < 4; echo++) {
            CHECK.same("a fair changes nothing then", fair.fairResult(echo), fair.employerOf(echo));
        }
    }

    private static void resultOrNone() {
        EchoFair fair = Check.loaded(HEAD + "echo a 1 2 5 0;echo b 1 3 5 0;echo c 1 9 6 0;"
            + "valley v 1 1 5 0;valley w 1 1 4 0;tested v a;tested v b;");
        CHECK.same("rejected", fair.fairResult(0), -1);
        CHECK.same("kept", fair.fairResult(1), 0);
        CHECK.same("accepts none", fair.fairResult(2), -1);
        EchoFair eight = Check.loaded(Numbers.crowd(12, 8));
        for (int echo = 0; echo < 12; echo++) {
            CHECK.same("echo " + echo, eight.fairResult(echo), echo < 8 ? echo : -1);
        }
        eight.holdFair();
        eight.setWage(7, 99);
        CHECK.same("a contract stays", eight.fairResult(0), 0);
        CHECK.same("all posts are taken", eight.fairResult(8), -1);
        eight.dismiss(0);
        CHECK.same("one post is free", eight.fairResult(0), 0);
        CHECK.same("and goes to another", eight.fairResult(8), -1);
    }

    private static EchoFair later(int days) {
        EchoFair fair = new EchoFair();
        if (days > 0) {
            fair.passDays(days);
        }
        return fair;
    }

    private static void savingsOfEachDay() {
        for (int start = 0; start <= 18; start += 6) {
            for (int echo = 0; echo < 4; echo++) {
                EchoFair fair = later(start);
                EchoFair passed = later(start);
                for (int days = 0; days <= 120; days++) {
                    CHECK.same("echo " + echo + " after " + days, fair.savingsAfter(echo, days),
                        passed.savingsOf(echo));
                    passed.passDays(1);
                }
                CHECK.same("the day stays", fair.day(), start);
            }
        }
    }

    private static void purseOfEachDay() {
        for (int start = 0; start <= 18; start += 6) {
            for (int valley = 0; valley < 3; valley++) {
                EchoFair fair = later(start);
                EchoFair passed = later(start);
                for (int days = 0; days <= 120; days++) {
                    CHECK.same("valley " + valley + " after " + days,
                        fair.purseAfter(valley, days), passed.purseOf(valley));
                    passed.passDays(1);
                }
                CHECK.same("the day stays", fair.day(), start);
            }
        }
    }

    /** The exception that is listed first is thrown, whatever the number of days. */
    private static void savingsOfNoEcho() {
        int[] days = {0, 1, 120};
        for (int some : days) {
            NUMBERS.ofEchoes((fair, echo) -> fair.savingsAfter(echo, some));
        }
        int[] outside = {-1, 121, Integer.MIN_VALUE, Integer.MAX_VALUE};
        for (int some : outside) {
            NUMBERS.ofNoEcho((fair, echo) -> fair.savingsAfter(echo, some));
        }
    }

    private static void purseOfNoValley() {
        int[] days = {0, 1, 120};
        for (int some : days) {
            NUMBERS.ofValleys((fair, valley) -> fair.purseAfter(valley, some));
        }
        int[] outside = {-1, 121, Integer.MIN_VALUE, Integer.MAX_VALUE};
        for (int some : outside) {
            NUMBERS.ofNoValley((fair, valley) -> fair.purseAfter(valley, some));
        }
    }

    private static void savingsAfterNoSuchDays() {
        EchoFair fair = worker();
        int[] outside = {-1, -120, 121, 122, 256, Integer.MIN_VALUE, Integer.MAX_VALUE};
        for (int days : outside) {
            CHECK.argument("days " + days, () -> fair.savingsAfter(0, days));
        }
        CHECK.same("nothing has passed", fair.day(), 0);
    }

    private static void purseAfterNoSuchDays() {
        EchoFair fair = worker();
        int[] outside = {-1, -120, 121, 122, 256, Integer.MIN_VALUE, Integer.MAX_VALUE};
        for (int days : outside) {
            CHECK.argument("days " + days, () -> fair.purseAfter(0, days));
        }
        CHECK.same("nothing has passed", fair.day(), 0);
    }

    /** A purse that loses two coins a day; no season begins between days 116 and 145. */
    private static EchoFair dwindling(int purse) {
        return Check.loaded("fair 29;fog 0;echo a 1 1 2 0;valley v 1 1 3 " + purse + ";");
    }

    private static void desertsFromOneTo120() {
        EchoFair foggy = Check.loaded("fair 2;fog 9;echo a 1 1 2 0;valley v 1 1 2 0;");
        CHECK.same("on the first day", foggy.desertsIn(0), 1);
        foggy.passDays(1);
        CHECK.same("once more than now", foggy.desertsIn(0), 3);
        foggy.passDays(3);
        CHECK.same("twice before", foggy.desertions(0), 2);
        CHECK.same("a third time", foggy.desertsIn(0), 2);
        CHECK.same("on the second day", dwindling(0).desertsIn(0), 2);
        CHECK.same("unpaid on days 118 and 119", dwindling(236).desertsIn(0), 120);
        EchoFair late = dwindling(238);
        CHECK.same("unpaid on days 119 and 120", late.desertsIn(0), -1);
        late.passDays(1);
        CHECK.same("a day later", late.desertsIn(0), 120);
        CHECK.same("always paid", worker().desertsIn(0), -1);
        CHECK.same("never hired", new EchoFair().desertsIn(2), -1);
    }

    private static void wagesFromOneTo99() {
        for (int reserve = 1; reserve <= 99; reserve++) {
            EchoFair fair = Check.loaded(HEAD + "echo a 1 1 " + reserve + " 0;valley v 1 1 50 0;");
            CHECK.same("the reserve wage", fair.leastWage(0, 0), reserve);
            CHECK.same("the wage stays", fair.wageOf(0), 50);
        }
        EchoFair rivals = Check.loaded(HEAD + "echo a 1 1 9 0;valley u 1 1 98 0;valley v 1 1 1 0;"
            + "valley w 1 1 1 0;");
        CHECK.same("99 is more", rivals.leastWage(1, 0), 99);
        rivals.setWage(0, 99);
        CHECK.same("nothing is more", rivals.leastWage(1, 0), -1);
        rivals.setWage(0, 1);
        rivals.setWage(2, 99);
        CHECK.same("99 is enough for a smaller number", rivals.leastWage(1, 0), 99);
        rivals.holdFair();
        CHECK.same("it serves the valley with any wage", rivals.leastWage(2, 0), 1);
        CHECK.same("it serves another", rivals.leastWage(1, 0), -1);
        // With a wage of 5 and more the valley w wins b as well, which it prefers.
        EchoFair both = Check.loaded(HEAD + "echo a 1 1 1 0;echo b 1 9 5 0;valley v 1 1 3 0;"
            + "valley w 1 1 50 0;tested w b;tested v b;");
        CHECK.same("only with 4", both.leastWage(1, 0), 4);
        CHECK.same("not with 50", both.fairResult(0), 0);
        both.setWage(0, 4);
        CHECK.same("with no wage", both.leastWage(1, 0), -1);
        CHECK.same("b with 5", both.leastWage(1, 1), 5);
        CHECK.same("the score is too low", Check.loaded(HEAD + "echo a 6 2 1 0;valley v 1 1 1 0;"
            + "tested v a;").leastWage(0, 0), -1);
    }

    /** What the season's end would change does not count. */
    private static void wagesOfNow() {
        EchoFair fair = Check.loaded("fair 1;fog 9;echo a 1 1 2 0;echo b 1 1 2 0;"
            + "valley v 1 1 2 0;valley w 1 1 1 0;");
        fair.passDays(1);
        CHECK.same("a has deserted v", fair.leastWage(0, 0), -1);
        CHECK.same("but not w", fair.leastWage(1, 0), 2);
        CHECK.same("b takes the post of v", fair.leastWage(0, 1), 2);
        fair.holdFair();
        CHECK.same("it serves v, whatever the wage", fair.leastWage(0, 1), 1);
        CHECK.same("the contract stays", fair.leastWage(1, 1), -1);
    }

    private static void testOrNone() {
        EchoFair fair = Check.loaded(HEAD + "echo a 9 1 9 0;echo b 9 2 9 0;echo c 9 2 1 0;"
            + "echo d 9 2 9 0;valley v 1 1 1 0;valley w 1 1 1 0;tested w b;");
        CHECK.same("all scores are negative, three are equal", fair.bestTest(0), 1);
        CHECK.same("w has tested b", fair.bestTest(1), 2);
        fair.holdFair();
        CHECK.same("c serves v", fair.employerOf(2), 0);
        CHECK.same("d is left", fair.bestTest(1), 3);
        fair.test(1, 3);
        CHECK.same("a is left", fair.bestTest(1), 0);
        fair.test(1, 0);
        CHECK.same("c is not tested, but has a contract", fair.bestTest(1), -1);
        fair.dismiss(2);
        CHECK.same("c is left", fair.bestTest(1), 2);
        fair.test(1, 2);
        CHECK.same("all are tested", fair.bestTest(1), -1);
        CHECK.same("v has tested none", fair.bestTest(0), 1);
        EchoFair hired = Check.loaded(HEAD + "echo a 1 1 1 0;valley v 1 1 1 0;");
        hired.holdFair();
        CHECK.same("all have contracts", hired.bestTest(0), -1);
        EchoFair last = Check.loaded(HEAD + "echo a 3 1 1 0;echo b 1 1 1 0;valley v 1 1 1 0;");
        CHECK.same("of 2 and 10", last.bestTest(0), 1);
    }

    private static void richestOfEquals() {
        EchoFair fair = Check.loaded(HEAD + "echo a 1 1 9 0;echo b 1 2 2 0;echo c 1 2 2 0;"
            + "echo d 1 3 3 0;valley v 2 3 2 99;");
        CHECK.same("all have nothing", fair.richestEcho(), 0);
        fair.passDays(1);
        CHECK.same("b has as much as c", fair.savingsOf(1), fair.savingsOf(2));
        CHECK.same("of two equals the smaller", fair.richestEcho(), 1);
        fair.dismiss(1);
        fair.passDays(1);
        CHECK.same("c has more", fair.richestEcho(), 2);
        fair.setWage(0, 3);
        fair.holdFair();
        fair.passDays(4);
        CHECK.same("d, the last, has most", fair.richestEcho(), 3);
        EchoFair twelve = Check.loaded(Numbers.crowd(12, 8));
        CHECK.same("of twelve", twelve.richestEcho(), 0);
        Check.run(twelve, "test z a;fund z 1;wage z 2;pass 1;");
        CHECK.same("not the first of twelve", twelve.richestEcho(), 1);
        Check.type(twelve, Numbers.crowd(1, 1));
        twelve.load();
        CHECK.same("of one", twelve.richestEcho(), 0);
    }

    private static void servedAtStepTwo() {
        EchoFair fair = Check.loaded("fair 2;fog 9;echo a 1 1 2 0;valley v 1 1 2 0;"
            + "valley w 1 1 1 0;");
        CHECK.same("at first", fair.daysServed(0, 0), 0);
        fair.holdFair();
        CHECK.same("a contract is no day", fair.daysServed(0, 0), 0);
        fair.dismiss(0);
        fair.passDays(1);
        CHECK.same("hired at step 1, deserted at step 3", fair.daysServed(0, 0), 1);
        fair.passDays(1);
        CHECK.same("a day without a contract", fair.daysServed(0, 0), 1);
        fair.passDays(1);
        CHECK.same("a season later", fair.daysServed(0, 0), 2);
        CHECK.same("never", fair.daysServed(1, 0), 0);
        fair.dismiss(0);
        fair.passDays(1);
        CHECK.same("dismissed before the day", fair.daysServed(0, 0), 2);
    }

    private static void contractsMade() {
        EchoFair fair = Check.loaded("fair 2;fog 0;echo a 1 1 5 0;echo b 1 1 5 0;"
            + "valley v 9 1 4 0;");
        CHECK.same("at first", fair.contractsMade(), 0);
        fair.holdFair();
        CHECK.same("a fair that makes none", fair.contractsMade(), 0);
        fair.setWage(0, 5);
        CHECK.same("not by a simulation", fair.fairResult(0) + fair.contractsMade(), 0);
        fair.holdFair();
        CHECK.same("one", fair.contractsMade(), 1);
        fair.holdFair();
        CHECK.same("an existing one is not made again", fair.contractsMade(), 1);
        fair.passDays(1);
        CHECK.same("made again by day 0", fair.contractsMade(), 2);
        fair.passDays(1);
        CHECK.same("not by day 1", fair.contractsMade(), 2);
        fair.passDays(1);
        CHECK.same("but by day 2", fair.contractsMade(), 3);
        fair.dismiss(0);
        CHECK.same("nor fewer", fair.contractsMade(), 3);
    }

    private static void endedInAnyWay() {
        EchoFair fair = Check.loaded("fair 3;fog 0 9;echo a 1 1 5 0;valley v 1 1 5 0;");
        CHECK.same("at first", fair.contractsEnded(), 0);
        fair.holdFair();
        CHECK.same("none yet", fair.contractsEnded(), 0);
        fair.dismiss(0);
        CHECK.same("dismissed", fair.contractsEnded(), 1);
        fair.passDays(1);
        CHECK.same("no contract to end on day 0", fair.contractsEnded(), 1);
        fair.passDays(1);
        CHECK.same("deserted on day 1", fair.contractsEnded(), 2);
        fair.fund(0, 99);
        fair.passDays(2);
        CHECK.same("no contract to end on day 3", fair.contractsEnded(), 2);
        fair.passDays(2);
        CHECK.same("paid for three days", fair.contractsEnded(), 2);
        fair.passDays(1);
        CHECK.same("the season has ended", fair.contractsEnded(), 3);
    }

    private static void howOftenDeserted() {
        EchoFair fair = Check.loaded("fair 1;fog 9;echo a 1 1 5 0;echo b 1 1 9 0;"
            + "valley v 1 1 5 0;");
        for (int times = 0; times < 4; times++) {
            CHECK.same("a", fair.desertions(0), times);
            CHECK.same("b", fair.desertions(1), 0);
            fair.passDays(1);
        }
        CHECK.same("each season", fair.desertions(0), 4);
        fair.setWage(0, 1);
        fair.passDays(1);
        fair.setWage(0, 9);
        fair.holdFair();
        CHECK.same("b is not hired", fair.employerOf(0), 0);
        fair.dismiss(0);
        CHECK.same("a dismissal is none", fair.desertions(0), 4);
        fair.undo();
        fair.passDays(1);
        CHECK.same("the end of a season is none, the fog is", fair.desertions(0), 5);
        fair.undo();
        CHECK.same("undone", fair.desertions(0), 4);
    }

    private static void repliesOfAllDays() {
        EchoFair fair = Check.loaded(HEAD + "echo a 1 1 10 9;echo b 1 9 10 9;valley v 9 3 10 10;"
            + "valley w 1 1 9 0;");
        CHECK.same("at first", fair.repliesHeard(0), 0);
        fair.passDays(1);
        CHECK.same("of both", fair.repliesHeard(0), 10);
        fair.train(0);
        CHECK.same("a lesson is no reply", fair.repliesHeard(0), 10);
        fair.setWage(0, 99);
        fair.passDays(1);
        CHECK.same("also unpaid", fair.unpaidDays(1), 1);
        CHECK.same("one more of a", fair.repliesHeard(0), 21);
        fair.dismiss(1);
        fair.passDays(1);
        CHECK.same("of a alone", fair.repliesHeard(0), 23);
        CHECK.same("w hears nothing", fair.repliesHeard(1), 0);
        CHECK.same("a has gone too", fair.staffCount(0), 0);
        fair.passDays(1);
        CHECK.same("of none", fair.repliesHeard(0), 23);
    }

    private static void allPayments() {
        EchoFair fair = Check.loaded(HEAD + "echo a 1 1 4 9;echo b 1 2 4 9;valley v 1 3 4 9;"
            + "valley w 1 1 3 0;");
        CHECK.same("at first", fair.wagesPaid(0), 0);
        fair.passDays(1);
        CHECK.same("of both", fair.wagesPaid(0), 12);
        CHECK.same("nothing is left", fair.purseOf(0), 0);
        fair.passDays(1);
        CHECK.same("of none", fair.wagesPaid(0), 12);
        fair.setWage(0, 3);
        fair.passDays(1);
        CHECK.same("the wage of that day, of a alone", fair.wagesPaid(0), 15);
        CHECK.same("b is not paid for the second time", fair.desertions(1), 1);
        fair.fund(0, 100);
        CHECK.same("no payment", fair.wagesPaid(0), 15);
        CHECK.same("w", fair.wagesPaid(1), 0);
    }

    /** After each of the ways in which money and contracts come and go. */
    private static void always(String what, Query query) {
        EchoFair fair = new EchoFair();
        CHECK.same(what + " at first", query.of(fair), 0);
        String[] texts = {"fair;", "pass 1;", "dismiss yodel;", "fund old 999;fund green 1;",
            "pass 1;train mumble;", "wage old 99;wage deep 1;", "pass 60;", "test old bell;",
            "pass 7;train bell;train bell;", "fair;dismiss bell;", ""};
        for (String text : texts) {
            Check.run(fair, text);
            CHECK.same(what + " after " + text, query.of(fair), 0);
        }
        for (int i = 0; i < 4; i++) {
            fair.undo();
            CHECK.same(what + " after undo", query.of(fair), 0);
        }
        fair.save();
        Check.type(fair, "fair 1;fog 9 0;echo a 1 9 9 0;echo b 2 9 9 1;valley v 9 3 99 9999;"
            + "valley w 1 2 98 0;");
        fair.load();
        CHECK.same(what + " after load", query.of(fair), 0);
        for (int i = 0; i < 60; i++) {
            fair.passDays(60);
            CHECK.same(what + " after " + fair.day() + " days", query.of(fair), 0);
        }
        fair.restore();
        CHECK.same(what + " after restore", query.of(fair), 0);
        fair.passDays(60);
        CHECK.same(what + " in the end", query.of(fair), 0);
    }

    private static void oneValleyEach() {
        EchoFair fair = Check.loaded(Numbers.crowd(12, 8));
        for (int valley = 0; valley < 8; valley++) {
            fair.setWage(valley, 2 + valley);
            fair.holdFair();
            fair.passDays(30);
            CHECK.same("servants", fair.doubleServants(), 0);
            int staff = 0;
            int employed = 0;
            for (int i = 0; i < 8; i++) {
                staff += fair.staffCount(i);
            }
            for (int echo = 0; echo < 12; echo++) {
                employed += fair.employerOf(echo) == EchoFair.NONE ? 0 : 1;
            }
            CHECK.same("each contract is of another echo", employed, staff);
        }
    }

    private static void meanOfSavings() {
        EchoFair fair = Check.loaded(HEAD + "echo a 1 1 9 0;echo b 1 1 2 0;echo c 1 1 9 0;"
            + "valley v 2 3 2 9;");
        CHECK.yes("of nothing", fair.meanSavings() == 0.0);
        fair.passDays(1);
        CHECK.yes("2 of 3", fair.meanSavings() == 2.0 / 3.0);
        CHECK.yes("not of floats", fair.meanSavings() != (double) (2.0f / 3.0f));
        fair.setWage(0, 1);
        fair.passDays(1);
        CHECK.yes("3 of 3", fair.meanSavings() == 1.0);
        EchoFair one = Check.loaded(HEAD + "echo a 1 9 99 0;valley v 9 1 99 9999;");
        one.passDays(1);
        CHECK.yes("of one", one.meanSavings() == 891.0);
        EchoFair twelve = Check.loaded(Numbers.crowd(12, 8));
        twelve.passDays(1);
        CHECK.yes("8 of 12", twelve.meanSavings() == 8.0 / 12.0);
    }

    private static void shareOfEmployed() {
        EchoFair fair = Check.loaded(HEAD + "echo a 1 1 1 0;echo b 1 1 2 0;echo c 1 1 3 0;"
            + "valley v 2 3 1 9;");
        CHECK.yes("nobody", fair.employmentRate() == 0.0f);
        for (int wage = 1; wage <= 3; wage++) {
            fair.setWage(0, wage);
            fair.holdFair();
            CHECK.yes(wage + " of 3", fair.employmentRate() == (float) wage / 3.0f);
        }
        CHECK.yes("all", fair.employmentRate() == 1.0f);
        EchoFair twelve = Check.loaded(Numbers.crowd(12, 8));
        twelve.holdFair();
        CHECK.yes("8 of 12", twelve.employmentRate() == 8.0f / 12.0f);
        EchoFair one = Check.loaded(Numbers.crowd(1, 1));
        CHECK.yes("none of one", one.employmentRate() == 0.0f);
        one.holdFair();
        CHECK.yes("one of one", one.employmentRate() == 1.0f);
    }
}
