/** The edges of promises 52 to 63, and of the section on undo: a test for each sentence. */
public final class EdgeOperationsTest {
    private static final Check CHECK = new Check("EdgeOperationsTest");
    private static final Numbers NUMBERS = new Numbers(CHECK);
    private static final String HEAD = "fair 30;fog 0;";
    private static final String NO_ECHO =
        "Throws `IndexOutOfBoundsException` if there is no such echo";
    private static final String NO_VALLEY =
        "Throws `IndexOutOfBoundsException` if there is no such valley";
    private static final int[] EXTREMES = {Integer.MIN_VALUE, Integer.MIN_VALUE + 1, -65536, -256,
        -99, -60, -2, -1, 0, Integer.MAX_VALUE - 1, Integer.MAX_VALUE};

    public static void main(String[] args) {
        all(Edges.running(CHECK));
        CHECK.finish();
    }

    static void all(Edges edges) {
        rules(edges);
        daysAndFairs(edges);
        contracts(edges);
        money(edges);
        undo(edges);
        savedState(edges);
        output(edges);
    }

    private static void rules(Edges edges) {
        edges.section("Terms");
        edges.holds("The methods in the section \"Operations\", and executeCommands, are"
            + " operations.", EdgeOperationsTest::whichAreOperations);
        edges.holds("The 8 most recent operations can be undone.",
            EdgeOperationsTest::eightMostRecent);
        edges.holds("An operation that throws an exception changes nothing, unless its description"
            + " says otherwise.", EdgeOperationsTest::refusedOperations);
        edges.holds("If a method throws several exceptions, the condition of the exception that is"
            + " listed first is checked first.", EdgeOperationsTest::listedFirst);
    }

    private static void daysAndFairs(Edges edges) {
        edges.section("Promise 52");
        edges.holds("`days`: number of days, 1 to 60", EdgeOperationsTest::oneTo60Days);
        edges.holds("Returns the number of desertions in them.",
            EdgeOperationsTest::desertionsInThem);
        edges.holds("Throws `IllegalArgumentException` if days is out of range",
            EdgeOperationsTest::noSuchDays);
        edges.section("Promise 53");
        edges.holds("Returns the number of contracts that were made.",
            EdgeOperationsTest::contractsOfAFair);
        edges.section("Promise 54");
        edges.holds("Returns the true score.", EdgeOperationsTest::trueScores);
        edges.holds("Throws `IndexOutOfBoundsException` if there is no such valley or echo",
            () -> NUMBERS.ofNoPair(EchoFair::test));
        edges.holds("Throws `IllegalStateException` if the valley has tested the echo, or the echo"
            + " has a contract", EdgeOperationsTest::noTest);
    }

    private static void contracts(Edges edges) {
        edges.section("Promise 55");
        edges.holds("This is no desertion.", EdgeOperationsTest::noDesertion);
        edges.holds("Returns the number of the valley that the echo served.",
            EdgeOperationsTest::valleysOfTheDismissed);
        edges.holds(NO_ECHO, () -> NUMBERS.ofNoEcho(EchoFair::dismiss));
        edges.holds("Throws `IllegalStateException` if the echo has no contract",
            EdgeOperationsTest::nobodyToDismiss);
        edges.section("Promise 56");
        edges.holds("`wage`: the new wage, 1 to 99", EdgeOperationsTest::oneTo99Coins);
        edges.holds("Returns the previous wage.", EdgeOperationsTest::previousWages);
        edges.holds(NO_VALLEY, EdgeOperationsTest::wageOfNoValley);
        edges.holds("Throws `IllegalArgumentException` if wage is out of range",
            EdgeOperationsTest::noSuchWage);
    }

    private static void money(Edges edges) {
        edges.section("Promise 57");
        edges.holds("`amount`: 1 to 999", EdgeOperationsTest::oneTo999Coins);
        edges.holds("Returns the purse after that.", EdgeOperationsTest::pursesOfTheFunded);
        edges.holds(NO_VALLEY, EdgeOperationsTest::fundsForNoValley);
        edges.holds("Throws `IllegalArgumentException` if amount is out of range",
            EdgeOperationsTest::noSuchAmount);
        edges.section("Promise 58");
        edges.holds("an echo pays 10 times its repeats from its savings, and its repeats increase"
            + " by 1.", EdgeOperationsTest::lessons);
        edges.holds("Returns the repeats after that.", EdgeOperationsTest::repeatsOfTheTrained);
        edges.holds(NO_ECHO, () -> NUMBERS.ofNoEcho(EchoFair::train));
        edges.holds("Throws `IllegalStateException` if the repeats are 9, or the savings do not"
            + " suffice", EdgeOperationsTest::noLesson);
    }

    private static void undo(Edges edges) {
        edges.section("Promise 59");
        edges.holds("Undoes the most recent operation that was not undone.",
            EdgeOperationsTest::mostRecentThatWasNotUndone);
        edges.holds("The input buffer, the error code, the error position, the output and the saved"
            + " state do not change.", EdgeOperationsTest::whatUndoLeaves);
        edges.holds("Returns the number of operations that can still be undone.",
            EdgeOperationsTest::stillToUndo);
        edges.holds("Throws `IllegalStateException` if there is no operation to undo",
            EdgeOperationsTest::nothingToUndo);
    }

    private static void savedState(Edges edges) {
        edges.section("Promise 60");
        edges.holds("Saves the echoes, the valleys, the contracts, the tests, the desertions, the"
            + " day and all counters, replacing an earlier saved state.",
            EdgeOperationsTest::replacingAnEarlierState);
        edges.holds("Returns the day.", EdgeOperationsTest::daysOfSave);
        edges.section("Promise 61");
        edges.holds("Replaces everything that save saves by the saved state, which is kept.",
            EdgeOperationsTest::savedStateIsKept);
        edges.holds("Nothing can be undone afterwards.", EdgeOperationsTest::noUndoAfterRestore);
        edges.holds("Returns the day after that.", EdgeOperationsTest::daysOfRestore);
        edges.holds("Throws `IllegalStateException` if there is no saved state",
            EdgeOperationsTest::noSavedState);
    }

    private static void output(Edges edges) {
        edges.section("Promise 62");
        edges.holds("Replaces the output by the contracts", EdgeOperationsTest::replacedOutput);
        edges.holds("its name, an equals sign (byte 61), and the names of the echoes that serve it,"
            + " the oldest contract first, with a plus sign (byte 43) between two; with a space"
            + " (byte 32) between two valleys.", EdgeOperationsTest::signsBetween);
        edges.holds("Returns the length of the output.", EdgeOperationsTest::lengthsOfTheOutput);
        edges.section("Promise 63");
        edges.holds("`index`: index of the byte, from 0", EdgeOperationsTest::firstByte);
        edges.holds("Returns the byte, or NONE if there is no such byte.",
            EdgeOperationsTest::noSuchByte);
    }

    /** Each method that is an operation can be undone once, and no other method can. */
    private static void whichAreOperations() {
        EchoFair fair = new EchoFair();
        Runnable[] operations = {() -> fair.passDays(1), fair::holdFair, () -> fair.test(0, 2),
            () -> fair.dismiss(3), () -> fair.setWage(0, 10), () -> fair.fund(0, 1),
            () -> fair.train(0), fair::executeCommands, () -> Check.run(fair, "pass 1;fair;"),
            () -> Check.run(fair, "dismiss bell;")};
        for (int i = 0; i < operations.length; i++) {
            operations[i].run();
            int before = Math.min(i, 7);
            CHECK.same("operation " + i, fair.undo(), before);
            operations[i].run();
        }
        CHECK.same("the last of ten", fair.undo(), 7);
        int[] results = {fair.save(), fair.formatContracts(), fair.outputByte(0),
            fair.append(0, 0, 0, 0, 0), fair.truncate(3), fair.findEcho(), fair.findValley(),
            fair.fairResult(0), fair.savingsAfter(0, 1), fair.purseAfter(0, 1), fair.desertsIn(0),
            fair.leastWage(0, 0), fair.bestTest(0), fair.blockingPairs(), fair.richestEcho(),
            fair.preferredEcho(0, 0), fair.preferredValley(0, 0), fair.seenScore(0, 0),
            fair.staffCount(0), State.of(fair).length()};
        CHECK.same("the calls before are no operations", results.length, 20);
        CHECK.same("none of them is undone", fair.undo(), 6);
        CHECK.same("the empty commands are undone", fair.undo(), 5);
        CHECK.same("but not the lesson", fair.repeatsOf(0), 7);
        fair.undo();
        CHECK.same("then the lesson is undone", fair.repeatsOf(0), 6);
    }

    private static void eightMostRecent() {
        for (int made = 0; made <= 18; made++) {
            EchoFair fair = new EchoFair();
            for (int i = 0; i < made; i++) {
                fair.setWage(0, 20 + i);
            }
            int undone = Math.min(made, 8);
            for (int i = 1; i <= undone; i++) {
                CHECK.same("left of " + made, fair.undo(), undone - i);
                CHECK.same("wage", fair.wageOf(0), made == i ? 10 : 19 + made - i);
            }
            CHECK.state("no more of " + made, fair::undo);
            CHECK.same("wage in the end", fair.wageOf(0), made <= 8 ? 10 : 11 + made);
        }
    }

    private static void refusedOperations() {
        EchoFair[] fairs = {new EchoFair(), new EchoFair(), new EchoFair(), new EchoFair(),
            new EchoFair(), new EchoFair(), new EchoFair(), new EchoFair(), new EchoFair(),
            new EchoFair(), new EchoFair(), new EchoFair(), new EchoFair()};
        Runnable[] calls = {() -> fairs[0].passDays(0), () -> fairs[1].passDays(61),
            () -> fairs[2].test(0, 0), () -> fairs[3].test(3, 0), () -> fairs[4].test(0, 3),
            () -> fairs[5].dismiss(2), () -> fairs[6].dismiss(4), () -> fairs[7].setWage(0, 100),
            () -> fairs[8].setWage(3, 1), () -> fairs[9].fund(0, 1000), () -> fairs[10].fund(3, 1),
            () -> fairs[11].train(1), () -> fairs[12].train(4)};
        for (int i = 0; i < fairs.length; i++) {
            fairs[i].passDays(1);
            String before = State.of(fairs[i]);
            unchangedBy("call " + i, fairs[i], calls[i]);
            CHECK.same("state after call " + i, State.of(fairs[i]), before);
            CHECK.same("one operation after call " + i, fairs[i].undo(), 0);
            CHECK.same("the earlier one is undone", fairs[i].day(), 0);
        }
    }

    private static void unchangedBy(String what, EchoFair fair, Runnable call) {
        int day = fair.day();
        try {
            call.run();
            CHECK.report(what + " was not refused");
        } catch (IndexOutOfBoundsException | IllegalArgumentException
                | IllegalStateException refusal) {
            CHECK.same(what + " leaves the day", fair.day(), day);
        }
    }

    private static void listedFirst() {
        EchoFair fair = new EchoFair();
        CHECK.index("no echo, and no such days", () -> fair.savingsAfter(4, 121));
        CHECK.index("no echo, and negative days", () -> fair.savingsAfter(-1, -1));
        CHECK.index("no valley, and no such days", () -> fair.purseAfter(3, 121));
        CHECK.index("no valley, and negative days", () -> fair.purseAfter(-1, -1));
        CHECK.index("no valley, and no such wage", () -> fair.setWage(3, 100));
        CHECK.index("no valley, and no wage", () -> fair.setWage(-1, 0));
        CHECK.index("no valley, and no such amount", () -> fair.fund(3, 1000));
        CHECK.index("no valley, and no amount", () -> fair.fund(-1, 0));
        CHECK.argument("a valley, and no such wage", () -> fair.setWage(2, 100));
        CHECK.argument("a valley, and no such amount", () -> fair.fund(2, 1000));
    }

    private static void oneTo60Days() {
        for (int days = 1; days <= 60; days++) {
            EchoFair fair = new EchoFair();
            fair.passDays(days);
            CHECK.same("the day", fair.day(), days);
        }
        EchoFair fair = new EchoFair();
        CHECK.argument("no day", () -> fair.passDays(0));
        CHECK.argument("61 days", () -> fair.passDays(61));
    }

    /** Eight of the twelve echoes are hired, and not paid, every day. */
    private static EchoFair hopeless() {
        return Check.loaded(Numbers.crowd(12, 8).replace(HEAD, "fair 1;fog 9;")
            .replaceAll("valley (.) 1 1 1 0", "valley $1 1 1 99 0"));
    }

    private static void desertionsInThem() {
        EchoFair fair = hopeless();
        CHECK.same("of a day", fair.passDays(1), 8);
        CHECK.same("of sixty days", fair.passDays(60), 480);
        CHECK.same("of echo 0", fair.desertions(0), 61);
        CHECK.same("of echo 8", fair.desertions(8), 0);
        EchoFair other = new EchoFair();
        CHECK.same("none on day 0", other.passDays(1), 0);
        CHECK.same("only those of day 1", other.passDays(1), 2);
        CHECK.same("none when nobody serves but mumble", other.passDays(3), 0);
        other.undo();
        other.undo();
        CHECK.same("those of the three others", other.passDays(4), 2);
        CHECK.same("nobody can", Check.loaded(HEAD + "echo a 1 1 9 0;valley v 1 1 1 0;")
            .passDays(60), 0);
    }

    private static void noSuchDays() {
        EchoFair fair = new EchoFair();
        for (int days : EXTREMES) {
            CHECK.argument("days " + days, () -> fair.passDays(days));
        }
        int[] outside = {61, 62, 120, 256 + 1, 65536 + 1};
        for (int days : outside) {
            CHECK.argument("days " + days, () -> fair.passDays(days));
        }
        CHECK.same("nothing has passed", fair.day(), 0);
        CHECK.same("nobody was hired", fair.contractsMade(), 0);
        CHECK.state("no operation", fair::undo);
    }

    private static void contractsOfAFair() {
        CHECK.same("a post for each of twelve", Check.loaded(Numbers.crowd(12, 8)
            .replaceAll("valley (.) 1 1 1 0", "valley $1 1 3 1 0")).holdFair(), 12);
        EchoFair fair = Check.loaded(Numbers.crowd(12, 8));
        CHECK.same("eight posts", fair.holdFair(), 8);
        CHECK.same("no post is free", fair.holdFair(), 0);
        fair.dismiss(3);
        CHECK.same("only the new one", fair.holdFair(), 1);
        CHECK.same("nobody accepts", Check.loaded(HEAD + "echo a 1 1 9 0;valley v 1 3 8 0;")
            .holdFair(), 0);
        CHECK.same("one of one", Check.loaded(Numbers.crowd(1, 1)).holdFair(), 1);
    }

    private static void trueScores() {
        EchoFair fair = Check.loaded(HEAD + "echo a 9 1 1 0;echo b 1 9 1 0;echo c 6 2 1 0;"
            + "valley v 1 1 1 0;valley w 9 1 1 0;");
        CHECK.same("the least", fair.test(0, 0), -22);
        CHECK.same("the greatest", fair.test(0, 1), 90);
        CHECK.same("nothing", fair.test(0, 2), 0);
        CHECK.same("of another valley", fair.test(1, 0), 10);
        CHECK.same("is seen then", fair.seenScore(0, 0), -22);
    }

    private static void noTest() {
        EchoFair fair = Check.loaded(HEAD + "echo a 1 1 1 0;echo b 1 1 2 0;valley v 1 1 1 0;"
            + "valley w 1 1 1 0;tested w a;");
        CHECK.state("tested in the configuration", () -> fair.test(1, 0));
        fair.holdFair();
        CHECK.state("a contract with v", () -> fair.test(0, 0));
        CHECK.state("both", () -> fair.test(1, 0));
        CHECK.no("still not tested", fair.isTested(0, 0));
        CHECK.same("b has no contract", fair.test(0, 1), 10);
        CHECK.state("tested just now", () -> fair.test(0, 1));
        CHECK.same("but not by w", fair.test(1, 1), 10);
        fair.dismiss(0);
        CHECK.state("dismissed, but tested by w", () -> fair.test(1, 0));
        CHECK.same("dismissed, and not tested by v", fair.test(0, 0), 10);
        fair.undo();
        CHECK.same("an undone test can be made again", fair.test(0, 0), 10);
    }

    private static void noDesertion() {
        EchoFair fair = Check.loaded(HEAD + "echo a 1 1 2 5;valley v 1 1 2 0;");
        fair.passDays(1);
        CHECK.same("unpaid", fair.unpaidDays(0), 1);
        fair.dismiss(0);
        CHECK.same("desertions", fair.desertions(0), 0);
        CHECK.same("the pair is acceptable", fair.pairReason(0, 0), 0);
        CHECK.same("unpaid days", fair.unpaidDays(0), 0);
        CHECK.same("the contract has ended", fair.contractsEnded(), 1);
        CHECK.same("it is hired again", fair.holdFair(), 1);
    }

    private static void valleysOfTheDismissed() {
        EchoFair fair = Check.loaded(Numbers.crowd(12, 8));
        fair.holdFair();
        for (int echo = 7; echo >= 0; echo--) {
            CHECK.same("echo " + echo, fair.dismiss(echo), echo);
            CHECK.same("has none then", fair.employerOf(echo), -1);
            CHECK.same("staff", fair.staffCount(echo), 0);
        }
    }

    private static void nobodyToDismiss() {
        EchoFair fair = Check.loaded("fair 2;fog 9;echo a 1 1 2 0;echo b 1 1 9 0;"
            + "valley v 1 1 2 0;");
        CHECK.state("at first", () -> fair.dismiss(0));
        fair.holdFair();
        CHECK.state("b was not hired", () -> fair.dismiss(1));
        fair.dismiss(0);
        CHECK.state("a was dismissed", () -> fair.dismiss(0));
        fair.passDays(1);
        CHECK.state("a has deserted", () -> fair.dismiss(0));
        fair.passDays(1);
        fair.fund(0, 99);
        fair.passDays(1);
        fair.setWage(0, 1);
        CHECK.same("of a contract with any wage", fair.dismiss(0), 0);
        fair.undo();
        fair.passDays(2);
        CHECK.state("the season has ended", () -> fair.dismiss(0));
        CHECK.same("ended", fair.contractsEnded(), 3);
    }

    private static void oneTo99Coins() {
        EchoFair fair = new EchoFair();
        for (int wage = 1; wage <= 99; wage++) {
            fair.setWage(2, wage);
            CHECK.same("the wage", fair.wageOf(2), wage);
        }
        CHECK.argument("no coin", () -> fair.setWage(2, 0));
        CHECK.argument("100 coins", () -> fair.setWage(2, 100));
        CHECK.same("the wage stays", fair.wageOf(2), 99);
        CHECK.same("the others stay", fair.wageOf(0) + fair.wageOf(1), 18);
    }

    private static void previousWages() {
        EchoFair fair = new EchoFair();
        CHECK.same("of the configuration", fair.setWage(0, 99), 10);
        CHECK.same("the greatest", fair.setWage(0, 1), 99);
        CHECK.same("the least", fair.setWage(0, 1), 1);
        CHECK.argument("refused", () -> fair.setWage(0, 100));
        CHECK.same("not the refused one", fair.setWage(0, 7), 1);
        fair.undo();
        CHECK.same("not the undone one", fair.setWage(0, 8), 1);
        CHECK.same("of another valley", fair.setWage(2, 8), 15);
    }

    private static void wageOfNoValley() {
        int[] wages = {1, 99, 0, 100, Integer.MIN_VALUE, Integer.MAX_VALUE};
        for (int wage : wages) {
            NUMBERS.ofNoValley((fair, valley) -> fair.setWage(valley, wage));
        }
    }

    private static void noSuchWage() {
        EchoFair fair = new EchoFair();
        for (int wage : EXTREMES) {
            CHECK.argument("wage " + wage, () -> fair.setWage(0, wage));
        }
        int[] outside = {100, 101, 256 + 1, 65536 + 1};
        for (int wage : outside) {
            CHECK.argument("wage " + wage, () -> fair.setWage(2, wage));
        }
        CHECK.same("the wages stay", fair.wageOf(0) + fair.wageOf(2), 25);
        CHECK.state("no operation", fair::undo);
    }

    private static void oneTo999Coins() {
        EchoFair fair = new EchoFair();
        int[] amounts = {1, 2, 99, 100, 998, 999};
        int purse = 5;
        for (int amount : amounts) {
            fair.fund(1, amount);
            purse += amount;
            CHECK.same("the purse", fair.purseOf(1), purse);
        }
        CHECK.argument("no coin", () -> fair.fund(1, 0));
        CHECK.argument("1000 coins", () -> fair.fund(1, 1000));
        CHECK.same("the purse stays", fair.purseOf(1), purse);
        CHECK.same("the others stay", fair.purseOf(0) + fair.purseOf(2), 90);
    }

    private static void pursesOfTheFunded() {
        EchoFair fair = Check.loaded(HEAD + "echo a 1 1 1 0;valley v 1 1 1 0;valley w 1 1 1 9999;");
        CHECK.same("an empty purse", fair.fund(0, 1), 1);
        CHECK.same("a full purse", fair.fund(1, 1), 10000);
        CHECK.same("the most", fair.fund(1, 999), 10999);
        fair.undo();
        CHECK.same("after undo", fair.fund(1, 2), 10002);
        EchoFair rich = Check.loaded(HEAD + "echo a 1 1 1 0;valley v 1 1 1 9999;");
        for (int times = 1; times <= 400; times++) {
            CHECK.same("far beyond that", rich.fund(0, 999), 9999 + 999 * times);
        }
    }

    private static void fundsForNoValley() {
        int[] amounts = {1, 999, 0, 1000, Integer.MIN_VALUE, Integer.MAX_VALUE};
        for (int amount : amounts) {
            NUMBERS.ofNoValley((fair, valley) -> fair.fund(valley, amount));
        }
    }

    private static void noSuchAmount() {
        EchoFair fair = new EchoFair();
        for (int amount : EXTREMES) {
            CHECK.argument("amount " + amount, () -> fair.fund(0, amount));
        }
        int[] outside = {1000, 1001, 1024 + 1, 65536 + 1};
        for (int amount : outside) {
            CHECK.argument("amount " + amount, () -> fair.fund(2, amount));
        }
        CHECK.same("the purses stay", fair.purseOf(0) + fair.purseOf(2), 90);
        CHECK.state("no operation", fair::undo);
    }

    /** An echo of one repeat with so many coins. */
    private static EchoFair saver(int coins) {
        EchoFair fair = Check.loaded(HEAD + "echo a 1 1 1 0;valley v 9 1 99 9999;");
        for (int left = coins; left > 0; left -= 99) {
            fair.setWage(0, Math.min(left, 99));
            fair.passDays(1);
        }
        CHECK.same("savings", fair.savingsOf(0), coins);
        return fair;
    }

    /** The price of the lessons up to so many repeats. */
    private static int priceUpTo(int repeats) {
        return 5 * repeats * (repeats - 1);
    }

    private static void lessons() {
        EchoFair fair = saver(priceUpTo(9));
        int earned = fair.purseOf(0);
        for (int repeats = 1; repeats < 9; repeats++) {
            fair.train(0);
            CHECK.same("repeats", fair.repeatsOf(0), repeats + 1);
            CHECK.same("savings", fair.savingsOf(0), priceUpTo(9) - priceUpTo(repeats + 1));
        }
        CHECK.same("all is spent", fair.savingsOf(0), 0);
        CHECK.same("the purse stays", fair.purseOf(0), earned);
        CHECK.same("the contract stays", fair.employerOf(0), 0);
    }

    private static void repeatsOfTheTrained() {
        EchoFair fair = saver(priceUpTo(9) + 7);
        for (int repeats = 2; repeats <= 9; repeats++) {
            CHECK.same("lesson", fair.train(0), repeats);
        }
        CHECK.same("the rest", fair.savingsOf(0), 7);
        fair.undo();
        CHECK.same("after undo", fair.train(0), 9);
        fair.passDays(1);
        CHECK.same("an echo may have no contract", fair.dismiss(0), 0);
        EchoFair free = saver(10);
        free.dismiss(0);
        CHECK.same("and is trained", free.train(0), 2);
    }

    private static void noLesson() {
        for (int repeats = 1; repeats < 9; repeats++) {
            EchoFair poor = saver(priceUpTo(repeats + 1) - 1);
            for (int lesson = 1; lesson < repeats; lesson++) {
                poor.train(0);
            }
            CHECK.state("a coin too little for " + repeats, () -> poor.train(0));
            CHECK.same("repeats", poor.repeatsOf(0), repeats);
            CHECK.same("savings", poor.savingsOf(0), 10 * repeats - 1);
        }
        EchoFair fair = Check.loaded(HEAD + "echo a 1 9 1 0;echo b 1 9 99 0;valley v 9 1 9 0;");
        fair.passDays(30);
        CHECK.state("nine, and rich", () -> fair.train(0));
        CHECK.same("rich", fair.savingsOf(0), 30 * 9 * 9);
        CHECK.state("nine, and poor", () -> fair.train(1));
        CHECK.same("nine", fair.repeatsOf(0), 9);
        CHECK.same("one operation", fair.undo(), 0);
    }

    private static void mostRecentThatWasNotUndone() {
        EchoFair fair = new EchoFair();
        fair.setWage(0, 20);
        fair.setWage(0, 30);
        fair.setWage(0, 40);
        fair.undo();
        CHECK.same("the third is undone", fair.wageOf(0), 30);
        fair.setWage(0, 50);
        fair.undo();
        CHECK.same("the fourth is undone", fair.wageOf(0), 30);
        fair.undo();
        CHECK.same("the second, for the third was undone", fair.wageOf(0), 20);
        fair.undo();
        CHECK.same("the first", fair.wageOf(0), 10);
        Check.run(fair, "wage green 60;pass 1;wage green 70;");
        CHECK.same("commands", fair.wageOf(0), 70);
        CHECK.same("all of them are one operation", fair.undo(), 0);
        CHECK.same("and are undone", fair.wageOf(0), 10);
        CHECK.same("the day too", fair.day(), 0);
    }

    private static void whatUndoLeaves() {
        EchoFair fair = new EchoFair();
        fair.fund(0, 1);
        fair.save();
        fair.passDays(1);
        int length = fair.formatContracts();
        Check.type(fair, "fair 99;");
        CHECK.argument("a text with an error", fair::load);
        Check.type(fair, "horn");
        fair.undo();
        CHECK.same("the output's length", fair.outputByte(length - 1), 'n');
        CHECK.same("the output's end", fair.outputByte(length), -1);
        CHECK.same("it can be made anew", Check.contracts(fair), "green= deep= old=");
        CHECK.same("error code", fair.errorCode(), EchoFair.RANGE_ERROR);
        CHECK.same("error position", fair.errorPosition(), 5);
        CHECK.same("input buffer", fair.findEcho(), 3);
        CHECK.same("length of the buffer", fair.truncate(4), 4);
        fair.undo();
        CHECK.same("the purse before the fund", fair.purseOf(0), 60);
        CHECK.same("the saved state", fair.restore(), 0);
        CHECK.same("the saved purse", fair.purseOf(0), 61);
        EchoFair executed = new EchoFair();
        Check.run(executed, "pass 1;");
        executed.undo();
        CHECK.same("the buffer of undone commands is empty", executed.append(0, 0, 0, 0, 0), 20);
        executed.truncate(0);
        executed.fund(0, 1);
        Check.type(executed, "pass 61;");
        CHECK.argument("a command with an error", executed::executeCommands);
        CHECK.same("the fund is undone", executed.undo(), 0);
        CHECK.same("the code stays", executed.errorCode(), EchoFair.RANGE_ERROR);
        CHECK.same("the position stays", executed.errorPosition(), 5);
    }

    private static void stillToUndo() {
        for (int made = 1; made <= 12; made++) {
            EchoFair fair = new EchoFair();
            for (int i = 0; i < made; i++) {
                fair.fund(0, 1);
            }
            int left = Math.min(made, 8);
            while (left > 0) {
                left--;
                CHECK.same("still of " + made, fair.undo(), left);
            }
        }
        EchoFair fair = new EchoFair();
        for (int i = 0; i < 20; i++) {
            fair.fund(0, 1);
            fair.fund(0, 2);
            CHECK.same("one more each time", fair.undo(), Math.min(i + 1, 7));
        }
        CHECK.same("twenty coins", fair.purseOf(0), 80);
    }

    private static void nothingToUndo() {
        EchoFair fair = new EchoFair();
        CHECK.state("a new object", fair::undo);
        fair.fund(0, 1);
        fair.undo();
        CHECK.state("all is undone", fair::undo);
        CHECK.same("the purse", fair.purseOf(0), 60);
        for (int i = 0; i < 9; i++) {
            fair.fund(0, 1);
        }
        for (int i = 0; i < 8; i++) {
            fair.undo();
        }
        CHECK.state("only eight of nine", fair::undo);
        CHECK.same("the first stays", fair.purseOf(0), 61);
        fair.fund(0, 1);
        Check.type(fair, Numbers.crowd(1, 1));
        fair.load();
        CHECK.state("after load", fair::undo);
        fair.save();
        fair.fund(0, 1);
        fair.restore();
        CHECK.state("after restore", fair::undo);
        Check.type(fair, "pass 0;");
        CHECK.argument("a command with an error", fair::executeCommands);
        CHECK.state("is none", fair::undo);
    }

    /** An object in which everything has happened that save saves. */
    private static EchoFair eventful() {
        EchoFair fair = new EchoFair();
        fair.passDays(2);
        Check.run(fair, "test old bell;fair;fund deep 77;train yodel;wage green 12;dismiss horn;");
        fair.passDays(1);
        return fair;
    }

    private static void replacingAnEarlierState() {
        EchoFair fair = new EchoFair();
        fair.save();
        fair.passDays(1);
        fair.save();
        fair.passDays(1);
        fair.restore();
        CHECK.same("the later one", fair.day(), 1);
        CHECK.same("not the first", fair.savingsOf(0), 60);
        EchoFair full = eventful();
        String before = State.of(full);
        full.save();
        Check.run(full, "test green mumble;");
        full.passDays(60);
        full.restore();
        CHECK.same("the state", State.of(full), before);
        EchoFair smaller = eventful();
        smaller.save();
        Check.type(smaller, Numbers.crowd(12, 8));
        smaller.load();
        smaller.holdFair();
        smaller.save();
        Check.type(smaller, Numbers.crowd(1, 1));
        smaller.load();
        smaller.restore();
        CHECK.same("twelve echoes", smaller.echoCount(), 12);
        CHECK.same("eight valleys", smaller.valleyCount(), 8);
        CHECK.same("the last valley's echo", smaller.staffMember(7, 0), 7);
        CHECK.same("the last echo", smaller.employerOf(11), -1);
        CHECK.same("money", smaller.moneyImbalance(), 0);
        CHECK.same("contracts", smaller.contractImbalance(), 0);
    }

    private static void daysOfSave() {
        EchoFair fair = new EchoFair();
        CHECK.same("at first", fair.save(), 0);
        fair.passDays(60);
        CHECK.same("after sixty days", fair.save(), 60);
        fair.undo();
        CHECK.same("after undo", fair.save(), 0);
        CHECK.same("not of the earlier state", fair.restore(), 0);
    }

    private static void savedStateIsKept() {
        EchoFair fair = eventful();
        String before = State.of(fair);
        fair.save();
        for (int times = 0; times < 2; times++) {
            fair.passDays(7 + times);
            fair.restore();
        }
        CHECK.same("restored twice", State.of(fair), before);
        fair.restore();
        CHECK.same("and a third time", fair.day(), 3);
        Check.type(fair, Numbers.crowd(12, 8));
        fair.load();
        CHECK.same("it outlasts a load", fair.restore(), 3);
        CHECK.same("names", Check.contracts(fair), "green= deep=mumble old=bell");
    }

    private static void noUndoAfterRestore() {
        EchoFair fair = new EchoFair();
        for (int i = 0; i < 10; i++) {
            fair.fund(0, 1);
        }
        fair.save();
        CHECK.same("save leaves the operations", fair.undo(), 7);
        fair.restore();
        CHECK.state("none is left", fair::undo);
        CHECK.same("the purse", fair.purseOf(0), 70);
        fair.fund(0, 1);
        CHECK.same("one after restore", fair.undo(), 0);
        CHECK.state("and no more", fair::undo);
    }

    private static void daysOfRestore() {
        EchoFair fair = new EchoFair();
        fair.save();
        fair.passDays(9);
        CHECK.same("day 0", fair.restore(), 0);
        fair.passDays(60);
        fair.save();
        CHECK.same("day 60", fair.restore(), 60);
        CHECK.same("the day", fair.day(), 60);
    }

    private static void noSavedState() {
        EchoFair fair = eventful();
        String before = State.of(fair);
        CHECK.state("nothing is saved", fair::restore);
        CHECK.same("nothing changes", State.of(fair), before);
        CHECK.same("nor what can be undone", fair.undo(), 2);
        CHECK.state("still nothing is saved", fair::restore);
        EchoFair loaded = Check.loaded(Numbers.crowd(1, 1));
        CHECK.state("load saves nothing", loaded::restore);
        loaded.save();
        CHECK.same("saved", loaded.restore(), 0);
    }

    private static void replacedOutput() {
        EchoFair fair = new EchoFair();
        fair.holdFair();
        CHECK.same("contracts", Check.contracts(fair), "green=yodel deep=mumble old=horn");
        fair.dismiss(0);
        CHECK.same("the output stays until then", fair.outputByte(6), 'y');
        CHECK.same("a shorter output", Check.contracts(fair), "green= deep=mumble old=horn");
        CHECK.same("nothing of the longer one is left", fair.outputByte(27), -1);
        CHECK.same("once more", Check.contracts(fair), "green= deep=mumble old=horn");
        fair.undo();
        CHECK.same("a longer output", Check.contracts(fair), "green=yodel deep=mumble old=horn");
    }

    private static void signsBetween() {
        CHECK.same("no contract", Check.contracts(new EchoFair()), "green= deep= old=");
        CHECK.same("one valley", Check.contracts(Check.loaded(Numbers.crowd(1, 1))), "z=");
        EchoFair fair = Check.loaded(HEAD + "echo a 1 1 3 0;echo b 1 1 2 0;echo c 1 1 1 0;"
            + "valley v 1 3 1 0;valley w 1 3 1 0;");
        String[] due = {"v=c w=", "v=c+b w=", "v=c+b+a w="};
        for (int wage = 1; wage <= 3; wage++) {
            fair.setWage(0, wage);
            fair.holdFair();
            CHECK.same("with " + wage, Check.contracts(fair), due[wage - 1]);
        }
        fair.dismiss(2);
        fair.setWage(1, 9);
        fair.holdFair();
        CHECK.same("none behind the last", Check.contracts(fair), "v=b+a w=c");
    }

    /** The longest names, all of them with contracts, in the fewest valleys. */
    private static EchoFair longest() {
        StringBuilder text = new StringBuilder(HEAD);
        for (int i = 0; i < 12; i++) {
            text.append("echo ").append((char) ('a' + i)).append("bcdef 1 1 1 0;");
        }
        for (int i = 0; i < 8; i++) {
            text.append("valley ").append((char) ('z' - i)).append("yxwvu 1 3 ")
                .append(i < 4 ? 9 : 1).append(" 0;");
        }
        EchoFair fair = Check.loaded(text.toString());
        fair.holdFair();
        return fair;
    }

    private static void lengthsOfTheOutput() {
        CHECK.same("the shortest", Check.loaded(Numbers.crowd(1, 1)).formatContracts(), 2);
        CHECK.same("at first", new EchoFair().formatContracts(), 17);
        EchoFair fair = longest();
        CHECK.same("the longest", fair.formatContracts(), 143);
        CHECK.same("text", Check.contracts(fair), "zyxwvu=abcdef+bbcdef+cbcdef"
            + " yyxwvu=dbcdef+ebcdef+fbcdef xyxwvu=gbcdef+hbcdef+ibcdef"
            + " wyxwvu=jbcdef+kbcdef+lbcdef vyxwvu= uyxwvu= tyxwvu= syxwvu=");
    }

    private static void firstByte() {
        EchoFair fair = longest();
        CHECK.same("before the first output", fair.outputByte(0), -1);
        fair.formatContracts();
        CHECK.same("the first", fair.outputByte(0), 'z');
        CHECK.same("the second", fair.outputByte(1), 'y');
        CHECK.same("an equals sign", fair.outputByte(6), 61);
        CHECK.same("a plus sign", fair.outputByte(13), 43);
        CHECK.same("a space", fair.outputByte(27), 32);
        CHECK.same("the last", fair.outputByte(142), 61);
    }

    private static void noSuchByte() {
        EchoFair fair = longest();
        int[] outside = {-1, -2, -143, 143, 144, 159, 160, 161, 256, 900, 65536,
            Integer.MIN_VALUE, Integer.MAX_VALUE};
        for (int index : outside) {
            CHECK.same("no output, " + index, fair.outputByte(index), -1);
        }
        fair.formatContracts();
        for (int index : outside) {
            CHECK.same("index " + index, fair.outputByte(index), -1);
        }
        EchoFair shorter = new EchoFair();
        int length = shorter.formatContracts();
        CHECK.same("the last", shorter.outputByte(length - 1), '=');
        CHECK.same("behind the last", shorter.outputByte(length), -1);
    }
}
